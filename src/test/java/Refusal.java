import java.util.function.Supplier;

/** A call that throws changes nothing: of two objects alike, the one that refused a call goes on as the other does. */
final class Refusal {
    /** A call of the object that it is given. */
    interface Refused {
        Object answer(TheodoliteRow row);
    }

    private Refusal() {
    }

    /** The call must throw that very exception, twice, and leave the object as one that was never asked. */
    static void due(Supplier<TheodoliteRow> made, String call, String exception, Refused refused) {
        TheodoliteRow untouched = made.get();
        TheodoliteRow touched = made.get();
        Expect.dueThrow(call, exception, () -> refused.answer(touched));
        Expect.dueThrow(call + " once more", exception, () -> refused.answer(touched));
        Expect.due("all that goes on after " + call, allThatGoesOn(untouched), () -> allThatGoesOn(touched));
    }

    /** All that an object tells and then does; less than 420 calls, as an object is used for 512 at most. */
    private static String allThatGoesOn(TheodoliteRow row) {
        StringBuilder text = new StringBuilder(Nets.allAnswers(row));
        for (int step = 0; step < 12; step++) {
            int station = step % 6;
            text.append(Expect.answerOf(() -> row.go(station))).append(' ');
            text.append(row.sum()).append(' ').append(row.isClosed()).append('\n');
        }
        text.append(row.end()).append('\n');
        for (int o = 0; o < 14; o++) {
            int observation = o;
            text.append(Expect.answerOf(() -> row.withdraw(observation, false))).append(' ');
        }
        text.append('\n').append(Nets.allAnswers(row)).append('\n');
        for (int s = 0; s < 6; s++) {
            int station = s;
            text.append(Expect.answerOf(() -> row.datum(station, 0, false))).append(' ');
        }
        text.append('\n').append(Nets.allAnswers(row)).append('\n');
        text.append(Expect.answerOf(row::station)).append(' ');
        text.append(Expect.answerOf(() -> row.observe(0, 1, 77, 3))).append(' ');
        text.append(Expect.answerOf(() -> row.clean(0))).append('\n');
        return text.append(Nets.allAnswers(row)).toString();
    }
}
