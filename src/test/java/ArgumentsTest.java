import java.util.function.Supplier;

/** Each argument at its least and its greatest value, and one beyond either (and as far beyond as an int goes). */
public final class ArgumentsTest {
    /** A call with one argument that is tried. */
    private interface Tried {
        Object answer(int argument);
    }

    /** A call of the object that it is given, with one argument that is beyond its bounds. */
    private interface Beyond {
        Object answer(TheodoliteRow row, int argument);
    }

    public static void main(String[] args) {
        for (int stations = 0; stations <= 6; stations++) {
            stationNumbers(stations);
        }
        for (int observations = 0; observations <= 14; observations++) {
            observationNumbers(observations);
        }
        toldHeights();
        heightsTakenBack();
        differences();
        weights();
        bounds();
        sameStations();
        Expect.finish("ArgumentsTest");
    }

    /** Refuses what is one below the least, one above the greatest, and farthest of all; nothing is changed by that. */
    private static void dueRefused(Supplier<TheodoliteRow> made, String call, int least, int most, String exception,
            Beyond beyond) {
        int[] arguments = {least - 1, most + 1, Integer.MIN_VALUE, Integer.MAX_VALUE};
        for (int argument : arguments) {
            Refusal.due(made, call + " of " + argument, exception, row -> beyond.answer(row, argument));
        }
    }

    private static void dueEach(String call, int least, int most, Object want, Tried tried) {
        for (int argument = least; argument <= most; argument++) {
            int one = argument;
            Expect.due(call + " of " + one, want, () -> tried.answer(one));
        }
    }

    private static void stationNumbers(int stations) {
        Expect.by("IndexOutOfBoundsException: there is no such station");
        Supplier<TheodoliteRow> made = () -> Nets.withStations(stations);
        int most = stations - 1;
        dueRefused(made, "datum", 0, most, Expect.INDEX, (row, s) -> row.datum(s, 1, true));
        dueRefused(made, "datum, taken back", 0, most, Expect.INDEX, (row, s) -> row.datum(s, 1, false));
        dueRefused(made, "observe from", 0, most, Expect.INDEX, (row, s) -> row.observe(s, 0, 1, 1));
        dueRefused(made, "observe to", 0, most, Expect.INDEX, (row, s) -> row.observe(0, s, 1, 1));
        dueRefused(made, "go", 0, most, Expect.INDEX, TheodoliteRow::go);
        dueRefused(made, "height", 0, most, Expect.INDEX, TheodoliteRow::height);
        dueRefused(made, "heightAnew", 0, most, Expect.INDEX, TheodoliteRow::heightAnew);
        dueRefused(made, "free", 0, most, Expect.INDEX, TheodoliteRow::free);
        dueRefused(made, "trees", 0, most, Expect.INDEX, TheodoliteRow::trees);
        stationsFromLeastToGreatest(made.get(), most);
    }

    private static void stationsFromLeastToGreatest(TheodoliteRow row, int most) {
        dueEach("height", 0, most, 0, row::height);
        dueEach("heightAnew", 0, most, 0, row::heightAnew);
        dueEach("free", 0, most, 0, row::free);
        dueEach("trees", 0, most, 1, row::trees);
        dueEach("datum", 0, most, false, s -> row.datum(s, 12, true));
        dueEach("height, told", 0, most, 1200, row::height);
        dueEach("heightAnew, told", 0, most, 1200, row::heightAnew);
        dueEach("datum, taken back", 0, most, true, s -> row.datum(s, 12, false));
        for (int s = 0; s <= most; s++) {
            int station = s;
            Expect.due("go(" + s + ")", 1, () -> row.go(station));
            Expect.due("end()", 1, row::end);
        }
        if (most >= 1) {
            Expect.due("observe(0, most, 3, 1)", 0, () -> row.observe(0, most, 3, 1));
            Expect.due("observe(most, 0, -3, 1)", 1, () -> row.observe(most, 0, -3, 1));
            Expect.due("height(most)", 300, () -> row.height(most));
        }
    }

    private static void observationNumbers(int observations) {
        Expect.by("IndexOutOfBoundsException: there is no such observation");
        Supplier<TheodoliteRow> made = () -> {
            TheodoliteRow row = Nets.withStations(2);
            for (int o = 0; o < observations; o++) {
                row.observe(o % 2, 1 - o % 2, 0, 1);
            }
            return row;
        };
        int most = observations - 1;
        dueRefused(made, "withdraw", 0, most, Expect.INDEX, (row, o) -> row.withdraw(o, true));
        dueRefused(made, "withdraw, restored", 0, most, Expect.INDEX, (row, o) -> row.withdraw(o, false));
        dueRefused(made, "residual", 0, most, Expect.INDEX, TheodoliteRow::residual);
        dueRefused(made, "check", 0, most, Expect.INDEX, TheodoliteRow::check);
        dueRefused(made, "checkAnew", 0, most, Expect.INDEX, TheodoliteRow::checkAnew);
        dueRefused(made, "score", 0, most, Expect.INDEX, TheodoliteRow::score);
        observationsFromLeastToGreatest(made.get(), observations);
    }

    private static void observationsFromLeastToGreatest(TheodoliteRow row, int observations) {
        int most = observations - 1;
        int check = observations == 0 ? 0 : 1000 * most / observations;
        dueEach("residual", 0, most, 0, row::residual);
        dueEach("check", 0, most, check, row::check);
        dueEach("checkAnew", 0, most, check, row::checkAnew);
        dueEach("score", 0, most, 0, row::score);
        dueEach("withdraw", 0, most, false, o -> row.withdraw(o, true));
        dueEach("withdraw, restored", 0, most, true, o -> row.withdraw(o, false));
    }

    private static void toldHeights() {
        Expect.by("promise 3: height: -9999 to 9999");
        Supplier<TheodoliteRow> told = () -> {
            TheodoliteRow row = Nets.withStations(2);
            row.datum(1, -9999, true);
            return row;
        };
        dueRefused(told, "datum, told", -9999, 9999, Expect.ARGUMENT, (row, h) -> row.datum(1, h, true));
        dueRefused(told, "datum, untold", -9999, 9999, Expect.ARGUMENT, (row, h) -> row.datum(0, h, true));
        TheodoliteRow row = Nets.withStations(2);
        Expect.due("datum(1, -9999, true)", false, () -> row.datum(1, -9999, true));
        Expect.due("height(1)", -999900, () -> row.height(1));
        Expect.due("heightAnew(1)", -999900, () -> row.heightAnew(1));
        Expect.due("datum(1, 9999, true)", true, () -> row.datum(1, 9999, true));
        Expect.due("height(1)", 999900, () -> row.height(1));
        Expect.due("heightAnew(1)", 999900, () -> row.heightAnew(1));
        Expect.due("datum(1, 0, true)", true, () -> row.datum(1, 0, true));
        Expect.due("height(1)", 0, () -> row.height(1));
    }

    private static void heightsTakenBack() {
        Expect.by("promise 3: otherwise it is taken back, whatever height is");
        int[] heights = {-10000, 10000, -9999, 9999, 0, 41, 42, Integer.MIN_VALUE, Integer.MAX_VALUE};
        for (int height : heights) {
            TheodoliteRow row = Nets.withStations(1);
            Expect.due("datum(0, " + height + ", false), untold", false, () -> row.datum(0, height, false));
            row.datum(0, 42, true);
            Expect.due("datum(0, " + height + ", false)", true, () -> row.datum(0, height, false));
            Expect.due("height(0)", 0, () -> row.height(0));
            Expect.due("datum(0, " + height + ", false), once more", false, () -> row.datum(0, height, false));
        }
    }

    private static void differences() {
        Expect.by("promise 4: difference: -9999 to 9999");
        dueRefused(() -> Nets.withStations(2), "difference", -9999, 9999, Expect.ARGUMENT,
                (row, d) -> row.observe(0, 1, d, 1));
        TheodoliteRow row = Nets.withStations(3);
        Expect.due("observe(0, 1, -9999, 1)", 0, () -> row.observe(0, 1, -9999, 1));
        Expect.due("height(1)", -999900, () -> row.height(1));
        Expect.due("observe(0, 2, 9999, 1)", 1, () -> row.observe(0, 2, 9999, 1));
        Expect.due("height(2)", 999900, () -> row.height(2));
        Expect.due("heightAnew(2)", 999900, () -> row.heightAnew(2));
        Expect.due("observe(1, 2, 0, 1)", 2, () -> row.observe(1, 2, 0, 1));
        Expect.due("residual(2), of a third of the misfit", 666600, () -> row.residual(2));
    }

    private static void weights() {
        Expect.by("promise 4: weight: 1 to 5");
        dueRefused(() -> Nets.withStations(2), "weight", 1, 5, Expect.ARGUMENT, (row, w) -> row.observe(0, 1, 0, w));
        TheodoliteRow row = Nets.withStations(2);
        Nets.dueThrow(row, "weight of -1", Expect.ARGUMENT, () -> row.observe(0, 1, 0, -1));
        for (int weight = 1; weight <= 5; weight++) {
            int its = weight;
            Expect.due("observe(0, 1, 0, " + its + ")", its - 1, () -> row.observe(0, 1, 0, its));
            Expect.due("trees(1)", its * (its + 1) / 2, () -> row.trees(1));
        }
        Expect.due("check(0), 14 of 15", 933, () -> row.check(0));
        Expect.due("check(4), 10 of 15", 666, () -> row.check(4));
    }

    private static void bounds() {
        Expect.by("promise 6: bound: 0 to 1000000000");
        dueRefused(TheodoliteRow::new, "clean, without stations", 0, 1000000000, Expect.ARGUMENT, TheodoliteRow::clean);
        dueRefused(Nets::ring, "clean", 0, 1000000000, Expect.ARGUMENT, TheodoliteRow::clean);
        TheodoliteRow row = Nets.ring();
        Expect.due("clean(1000000000)", 0, () -> row.clean(1000000000));
        Expect.due("clean(0)", 1, () -> row.clean(0));
        Expect.due("clean(0), nothing is left", 0, () -> row.clean(0));
        Nets.dueThrow(row, "clean(-1), nothing is left", Expect.ARGUMENT, () -> row.clean(-1));
        Nets.dueThrow(row, "clean(1000000001), nothing is left", Expect.ARGUMENT, () -> row.clean(1000000001));
    }

    private static void sameStations() {
        Expect.by("promise 4: if both stations are the same");
        TheodoliteRow row = Nets.withStations(6);
        for (int s = 0; s < 6; s++) {
            int station = s;
            Nets.dueThrow(row, "observe(" + s + ", " + s + ", 1, 1)", Expect.ARGUMENT,
                    () -> row.observe(station, station, 1, 1));
        }
        Expect.due("the number of the first observation", 0, () -> row.observe(5, 0, 1, 1));
    }
}
