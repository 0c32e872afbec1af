/** Promises 1 to 5: a new object, station, datum, observe, withdraw. */
public final class StationsTest {
    public static void main(String[] args) {
        newObject();
        stations();
        datums();
        datumErrors();
        observations();
        observationErrors();
        fullNet();
        withdrawals();
        Expect.finish("StationsTest");
    }

    private static void newObject() {
        TheodoliteRow row = new TheodoliteRow();
        Expect.due("parts()", 0, row::parts);
        Expect.due("worst()", TheodoliteRow.NONE, row::worst);
        Expect.due("NONE", -1, () -> TheodoliteRow.NONE);
        Expect.due("clean(0)", 0, () -> row.clean(0));
        Expect.due("sum()", 0, row::sum);
        Expect.due("isClosed()", false, row::isClosed);
        Expect.due("end()", 0, row::end);
        Nets.dueThrow(row, "height(0)", Expect.INDEX, () -> row.height(0));
        Nets.dueThrow(row, "go(0)", Expect.INDEX, () -> row.go(0));
        Nets.dueThrow(row, "datum(0, 0, true)", Expect.INDEX, () -> row.datum(0, 0, true));
        Nets.dueThrow(row, "withdraw(0, true)", Expect.INDEX, () -> row.withdraw(0, true));
        Nets.dueThrow(row, "observe(0, 1, 0, 1)", Expect.INDEX, () -> row.observe(0, 1, 0, 1));
        TheodoliteRow other = Nets.ring();
        Expect.due("parts() of its own", 0, row::parts);
        Expect.due("parts() of the other", 1, other::parts);
    }

    private static void stations() {
        TheodoliteRow row = new TheodoliteRow();
        for (int s = 0; s < 6; s++) {
            Expect.due("station()", s, row::station);
            Expect.due("parts()", s + 1, row::parts);
        }
        Nets.dueThrow(row, "station()", Expect.STATE, row::station);
        Nets.dueThrow(row, "station()", Expect.STATE, row::station);
        Expect.due("height(5)", 0, () -> row.height(5));
        Nets.dueThrow(row, "height(6)", Expect.INDEX, () -> row.height(6));
    }

    private static void datums() {
        TheodoliteRow row = Nets.withStations(3);
        row.observe(0, 1, 10, 1);
        Expect.due("datum(1, 9999, true)", false, () -> row.datum(1, 9999, true));
        Expect.due("height(1)", 999900, () -> row.height(1));
        Expect.due("height(0)", 998900, () -> row.height(0));
        Expect.due("height(2)", 0, () -> row.height(2));
        Expect.due("datum(1, -9999, true)", true, () -> row.datum(1, -9999, true));
        Expect.due("height(1)", -999900, () -> row.height(1));
        Expect.due("height(0)", -1000900, () -> row.height(0));
        Expect.due("datum(0, 7, true)", false, () -> row.datum(0, 7, true));
        Expect.due("height(1), by the lowest told", 1700, () -> row.height(1));
        Expect.due("datum(0, 10000, false)", true, () -> row.datum(0, 10000, false));
        Expect.due("height(1)", -999900, () -> row.height(1));
        Expect.due("datum(1, -2147483648, false)", true, () -> row.datum(1, Integer.MIN_VALUE, false));
        Expect.due("datum(1, 2147483647, false)", false, () -> row.datum(1, Integer.MAX_VALUE, false));
        Expect.due("height(1)", 1000, () -> row.height(1));
        Expect.due("height(0)", 0, () -> row.height(0));
        Expect.due("datum(1, 0, true)", false, () -> row.datum(1, 0, true));
        Expect.due("datum(1, 0, false), a told 0 is told", true, () -> row.datum(1, 0, false));
    }

    private static void datumErrors() {
        TheodoliteRow row = Nets.withStations(2);
        row.datum(1, 5, true);
        Nets.dueThrow(row, "datum(-1, 0, true)", Expect.INDEX, () -> row.datum(-1, 0, true));
        Nets.dueThrow(row, "datum(2, 0, false)", Expect.INDEX, () -> row.datum(2, 0, false));
        Nets.dueThrow(row, "datum(2, 10000, true)", Expect.INDEX, () -> row.datum(2, 10000, true));
        Nets.dueThrow(row, "datum(1, 10000, true)", Expect.ARGUMENT, () -> row.datum(1, 10000, true));
        Nets.dueThrow(row, "datum(1, -10000, true)", Expect.ARGUMENT, () -> row.datum(1, -10000, true));
        Nets.dueThrow(row, "datum(0, 2147483647, true)", Expect.ARGUMENT, () -> row.datum(0, Integer.MAX_VALUE, true));
        Expect.due("datum(0, 1, true)", false, () -> row.datum(0, 1, true));
    }

    private static void observations() {
        TheodoliteRow row = Nets.withStations(4);
        Expect.due("observe(1, 0, 9999, 1)", 0, () -> row.observe(1, 0, 9999, 1));
        Expect.due("observe(1, 2, -9999, 5)", 1, () -> row.observe(1, 2, -9999, 5));
        Expect.due("height(1)", -999900, () -> row.height(1));
        Expect.due("height(2)", -1999800, () -> row.height(2));
        Expect.due("trees(0)", 5, () -> row.trees(0));
        Expect.due("observe(0, 1, -9999, 4), another one of the same", 2, () -> row.observe(0, 1, -9999, 4));
        Expect.due("trees(0)", 25, () -> row.trees(0));
        Expect.due("parts()", 2, row::parts);
        Expect.due("observe(3, 2, 0, 3)", 3, () -> row.observe(3, 2, 0, 3));
        Expect.due("parts()", 1, row::parts);
        Expect.due("height(3)", -1999800, () -> row.height(3));
    }

    private static void observationErrors() {
        TheodoliteRow row = Nets.ring();
        Nets.dueThrow(row, "observe(-1, 0, 0, 1)", Expect.INDEX, () -> row.observe(-1, 0, 0, 1));
        Nets.dueThrow(row, "observe(0, -1, 0, 1)", Expect.INDEX, () -> row.observe(0, -1, 0, 1));
        Nets.dueThrow(row, "observe(3, 0, 0, 1)", Expect.INDEX, () -> row.observe(3, 0, 0, 1));
        Nets.dueThrow(row, "observe(0, 3, 0, 1)", Expect.INDEX, () -> row.observe(0, 3, 0, 1));
        Nets.dueThrow(row, "observe(3, 3, 0, 1)", Expect.INDEX, () -> row.observe(3, 3, 0, 1));
        Nets.dueThrow(row, "observe(0, 5, 10000, 0)", Expect.INDEX, () -> row.observe(0, 5, 10000, 0));
        Nets.dueThrow(row, "observe(1, 1, 0, 1)", Expect.ARGUMENT, () -> row.observe(1, 1, 0, 1));
        Nets.dueThrow(row, "observe(0, 1, 10000, 1)", Expect.ARGUMENT, () -> row.observe(0, 1, 10000, 1));
        Nets.dueThrow(row, "observe(0, 1, -10000, 1)", Expect.ARGUMENT, () -> row.observe(0, 1, -10000, 1));
        Nets.dueThrow(row, "observe(0, 1, 0, 0)", Expect.ARGUMENT, () -> row.observe(0, 1, 0, 0));
        Nets.dueThrow(row, "observe(0, 1, 0, 6)", Expect.ARGUMENT, () -> row.observe(0, 1, 0, 6));
        Nets.dueThrow(row, "observe(0, 1, 0, -5)", Expect.ARGUMENT, () -> row.observe(0, 1, 0, -5));
        Expect.due("observe(0, 1, 0, 1), the number after those", 3, () -> row.observe(0, 1, 0, 1));
    }

    private static void fullNet() {
        TheodoliteRow row = Nets.withStations(2);
        for (int o = 0; o < 14; o++) {
            int number = o;
            Expect.due("observe(0, 1, .., 5)", number, () -> row.observe(0, 1, number, 5));
        }
        Expect.due("trees(1)", 70, () -> row.trees(1));
        Expect.due("heightAnew(1)", 650, () -> row.heightAnew(1));
        Nets.dueThrow(row, "observe(0, 1, 0, 1)", Expect.STATE, () -> row.observe(0, 1, 0, 1));
        Nets.dueThrow(row, "observe(0, 2, 0, 1)", Expect.INDEX, () -> row.observe(0, 2, 0, 1));
        Nets.dueThrow(row, "observe(0, 0, 0, 1)", Expect.ARGUMENT, () -> row.observe(0, 0, 0, 1));
        Nets.dueThrow(row, "observe(0, 1, 0, 6)", Expect.ARGUMENT, () -> row.observe(0, 1, 0, 6));
        row.withdraw(13, true);
        Nets.dueThrow(row, "observe(0, 1, 0, 1), one withdrawn", Expect.STATE, () -> row.observe(0, 1, 0, 1));
    }

    private static void withdrawals() {
        TheodoliteRow row = Nets.ring();
        Expect.due("withdraw(2, false)", false, () -> row.withdraw(2, false));
        Expect.due("withdraw(2, true)", false, () -> row.withdraw(2, true));
        Expect.due("height(2)", 15000, () -> row.height(2));
        Expect.due("trees(2)", 1, () -> row.trees(2));
        Expect.due("withdraw(2, true)", true, () -> row.withdraw(2, true));
        Expect.due("withdraw(0, true)", false, () -> row.withdraw(0, true));
        Expect.due("parts()", 2, row::parts);
        Expect.due("height(2), its part begins at 1", 5000, () -> row.height(2));
        Expect.due("withdraw(2, false)", true, () -> row.withdraw(2, false));
        Expect.due("height(1)", 9700, () -> row.height(1));
        Expect.due("withdraw(0, false)", true, () -> row.withdraw(0, false));
        Expect.due("height(1)", 9900, () -> row.height(1));
        Nets.dueThrow(row, "withdraw(3, true)", Expect.INDEX, () -> row.withdraw(3, true));
        Nets.dueThrow(row, "withdraw(-1, false)", Expect.INDEX, () -> row.withdraw(-1, false));
        TheodoliteRow full = Nets.full();
        Expect.due("withdraw(13, true)", false, () -> full.withdraw(13, true));
        Nets.dueThrow(full, "withdraw(14, true)", Expect.INDEX, () -> full.withdraw(14, true));
    }
}
