/** Promises 7 to 10: go, end, sum, isClosed. */
public final class PathsTest {
    public static void main(String[] args) {
        goingAndEnding();
        lowestObservation();
        keptAsGone();
        tenStations();
        closing();
        wrongInputs();
        Expect.finish("PathsTest");
    }

    private static void goingAndEnding() {
        TheodoliteRow row = Nets.ring();
        Expect.due("end()", 0, row::end);
        Expect.due("go(1)", 1, () -> row.go(1));
        Expect.due("sum()", 0, row::sum);
        Expect.due("isClosed()", true, row::isClosed);
        Expect.due("go(2)", 2, () -> row.go(2));
        Expect.due("sum()", 50, row::sum);
        Expect.due("go(0)", 3, () -> row.go(0));
        Expect.due("sum()", -97, row::sum);
        Expect.due("go(1)", 4, () -> row.go(1));
        Expect.due("sum()", 3, row::sum);
        Expect.due("isClosed()", false, row::isClosed);
        Expect.due("end()", 4, row::end);
        Expect.due("sum()", 0, row::sum);
        Expect.due("isClosed()", false, row::isClosed);
        Expect.due("end()", 0, row::end);
        Expect.due("go(2)", 1, () -> row.go(2));
        Expect.due("go(1), against its direction", 2, () -> row.go(1));
        Expect.due("sum()", -50, row::sum);
    }

    private static void lowestObservation() {
        TheodoliteRow row = Nets.withStations(2);
        row.observe(1, 0, 7, 1);
        row.observe(0, 1, 20, 5);
        row.go(0);
        Expect.due("go(1)", 2, () -> row.go(1));
        Expect.due("sum()", -7, row::sum);
        row.withdraw(0, true);
        Expect.due("go(0)", 3, () -> row.go(0));
        Expect.due("sum()", -27, row::sum);
        row.withdraw(1, true);
        Nets.dueThrow(row, "go(1), all withdrawn", Expect.STATE, () -> row.go(1));
        row.withdraw(0, false);
        Expect.due("go(1)", 4, () -> row.go(1));
        Expect.due("sum()", -34, row::sum);
    }

    private static void keptAsGone() {
        TheodoliteRow row = Nets.ring();
        row.go(0);
        row.go(1);
        row.withdraw(0, true);
        Expect.due("sum(), along what it was gone by", 100, row::sum);
        row.datum(0, 9, true);
        row.withdraw(0, false);
        row.go(2);
        row.clean(0);
        Expect.due("sum()", 150, row::sum);
        Expect.due("end()", 3, row::end);
    }

    private static void tenStations() {
        TheodoliteRow row = Nets.withStations(3);
        row.observe(0, 1, 9999, 1);
        row.observe(2, 1, 9999, 1);
        row.observe(1, 2, 9999, 1);
        row.withdraw(1, true);
        row.observe(2, 0, 9999, 1);
        for (int s = 0; s < 10; s++) {
            int station = s % 3;
            Expect.due("go(" + station + ")", s + 1, () -> row.go(station));
        }
        Expect.due("sum()", 9 * 9999, row::sum);
        Nets.dueThrow(row, "go(1)", Expect.STATE, () -> row.go(1));
        Nets.dueThrow(row, "go(0)", Expect.STATE, () -> row.go(0));
        Nets.dueThrow(row, "go(3)", Expect.INDEX, () -> row.go(3));
        Expect.due("end()", 10, row::end);
        Expect.due("go(2)", 1, () -> row.go(2));
    }

    private static void closing() {
        TheodoliteRow row = Nets.withStations(3);
        row.observe(0, 1, 5, 1);
        row.observe(1, 2, -5, 1);
        row.observe(0, 2, 1, 1);
        row.go(0);
        row.go(1);
        Expect.due("isClosed()", false, row::isClosed);
        row.go(2);
        Expect.due("isClosed(), a sum of 0 elsewhere", false, row::isClosed);
        row.go(0);
        Expect.due("isClosed(), back with -1", false, row::isClosed);
        row.go(2);
        row.go(0);
        row.go(2);
        row.go(1);
        row.go(0);
        Expect.due("isClosed(), with 0 at last", true, row::isClosed);
        row.end();
        row.go(1);
        row.go(0);
        row.go(1);
        Expect.due("isClosed(), there and back", true, row::isClosed);
    }

    private static void wrongInputs() {
        TheodoliteRow row = Nets.withStations(4);
        row.observe(0, 1, 5, 1);
        Nets.dueThrow(row, "go(-1)", Expect.INDEX, () -> row.go(-1));
        Nets.dueThrow(row, "go(4)", Expect.INDEX, () -> row.go(4));
        Expect.due("go(0)", 1, () -> row.go(0));
        Nets.dueThrow(row, "go(0), the same", Expect.STATE, () -> row.go(0));
        Nets.dueThrow(row, "go(2), not joined", Expect.STATE, () -> row.go(2));
        Nets.dueThrow(row, "go(4)", Expect.INDEX, () -> row.go(4));
        Expect.due("go(1)", 2, () -> row.go(1));
        Expect.due("end()", 2, row::end);
    }
}
