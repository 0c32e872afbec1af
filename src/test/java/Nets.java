/** Nets that several tests begin with. */
final class Nets {
    private Nets() {
    }

    static TheodoliteRow withStations(int count) {
        TheodoliteRow row = new TheodoliteRow();
        for (int s = 0; s < count; s++) {
            row.station();
        }
        return row;
    }

    /** Three stations in a ring that misses by 3: differences 100, 50 and -147, weights of 1. */
    static TheodoliteRow ring() {
        TheodoliteRow row = withStations(3);
        row.observe(0, 1, 100, 1);
        row.observe(1, 2, 50, 1);
        row.observe(2, 0, -147, 1);
        return row;
    }

    /** Six stations, 14 observations, of every weight. */
    static TheodoliteRow full() {
        TheodoliteRow row = withStations(6);
        for (int o = 0; o < 14; o++) {
            int from = o % 6;
            int to = (from + 1 + o % 5) % 6;
            row.observe(from, to, 37 * o - 200, 1 + o % 5);
        }
        return row;
    }

    /** All that an object tells, in 84 calls, of stations and observations that are there or not. */
    static String allAnswers(TheodoliteRow row) {
        StringBuilder text = new StringBuilder();
        for (int s = 0; s < 6; s++) {
            int station = s;
            text.append(Expect.answerOf(() -> row.height(station))).append(' ');
            text.append(Expect.answerOf(() -> row.heightAnew(station))).append(' ');
            text.append(Expect.answerOf(() -> row.free(station))).append(' ');
            text.append(Expect.answerOf(() -> row.trees(station))).append('\n');
        }
        for (int o = 0; o < 14; o++) {
            int observation = o;
            text.append(Expect.answerOf(() -> row.residual(observation))).append(' ');
            text.append(Expect.answerOf(() -> row.check(observation))).append(' ');
            text.append(Expect.answerOf(() -> row.checkAnew(observation))).append(' ');
            text.append(Expect.answerOf(() -> row.score(observation))).append('\n');
        }
        text.append(row.worst()).append(' ').append(row.parts()).append(' ');
        text.append(row.sum()).append(' ').append(row.isClosed());
        return text.toString();
    }

    /** A call that throws changes nothing of what 10 calls tell; Refusal looks at all the rest. */
    static void dueThrow(TheodoliteRow row, String call, String exception, Expect.Call got) {
        String before = fewAnswers(row);
        Expect.dueThrow(call, exception, got);
        Expect.due("some answers after " + call, before, () -> fewAnswers(row));
    }

    private static String fewAnswers(TheodoliteRow row) {
        StringBuilder text = new StringBuilder();
        for (int s = 0; s < 3; s++) {
            int station = s;
            text.append(Expect.answerOf(() -> row.height(station))).append(' ');
        }
        text.append(Expect.answerOf(() -> row.trees(0))).append(' ');
        text.append(Expect.answerOf(() -> row.residual(0))).append(' ');
        text.append(Expect.answerOf(() -> row.check(0))).append(' ');
        text.append(row.worst()).append(' ').append(row.parts()).append(' ');
        text.append(row.sum()).append(' ').append(row.isClosed());
        return text.toString();
    }
}
