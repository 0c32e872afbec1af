/** Paths at their edges: empty, of one station, of 10; closed or not; by which observation they go. */
public final class EdgePathsTest {
    public static void main(String[] args) {
        empty();
        oneStation();
        tenStations();
        tenStationsThatClose();
        closing();
        onlyOneOfBoth();
        joinedByNone();
        lowestObservation();
        byWhichItWasGone();
        goneOnAfterWithdrawal();
        goneOnAfterAllElse();
        Expect.finish("EdgePathsTest");
    }

    private static void duePath(TheodoliteRow row, int stations, int sum, boolean isClosed) {
        Expect.due("sum() of " + stations + " stations", sum, row::sum);
        Expect.due("isClosed() of " + stations + " stations", isClosed, row::isClosed);
    }

    private static void dueGo(TheodoliteRow row, int station, int stations, int sum, boolean isClosed) {
        Expect.due("go(" + station + ")", stations, () -> row.go(station));
        duePath(row, stations, sum, isClosed);
    }

    private static void goThrough(TheodoliteRow row, int... stations) {
        for (int station : stations) {
            row.go(station);
        }
    }

    private static void empty() {
        Expect.by("promise 10: false without a station; promise 8: how many stations it had: none");
        TheodoliteRow row = Nets.ring();
        duePath(row, 0, 0, false);
        Expect.due("end()", 0, row::end);
        duePath(row, 0, 0, false);
        goThrough(row, 1, 2, 1);
        Expect.due("end()", 3, row::end);
        duePath(row, 0, 0, false);
        Expect.due("end(), once more", 0, row::end);
        goThrough(row, 0, 1);
        Expect.due("end(), of a sum of 100", 2, row::end);
        duePath(row, 0, 0, false);
    }

    private static void oneStation() {
        Expect.by("promise 7: or begins it there");
        TheodoliteRow row = Nets.ring();
        row.station();
        dueGo(row, 3, 1, 0, true);
        Expect.due("end()", 1, row::end);
        Expect.by("promise 8: Empties the path; it begins anywhere, and with a sum of 0");
        goThrough(row, 0, 1);
        row.end();
        dueGo(row, 3, 1, 0, true);
        row.end();
        dueGo(row, 2, 1, 0, true);
        dueGo(row, 1, 2, -50, false);
    }

    private static void tenStations() {
        Expect.by("A path is a row of up to 10 stations");
        TheodoliteRow row = Nets.withStations(3);
        row.observe(0, 1, 9999, 1);
        row.observe(2, 1, -9999, 1);
        row.observe(2, 0, 9999, 1);
        for (int s = 0; s < 10; s++) {
            dueGo(row, s % 3, s + 1, 9999 * s, s == 0);
        }
        Nets.dueThrow(row, "go(1), the 11th", Expect.STATE, () -> row.go(1));
        Nets.dueThrow(row, "go(2), the 11th", Expect.STATE, () -> row.go(2));
        duePath(row, 10, 89991, false);
        Expect.due("end()", 10, row::end);
        for (int s = 0; s < 10; s++) {
            dueGo(row, 2 - s % 3, s + 1, -9999 * s, s == 0);
        }
        duePath(row, 10, -89991, false);
        Expect.due("end()", 10, row::end);
        duePath(row, 0, 0, false);
        dueGo(row, 1, 1, 0, true);
    }

    private static void tenStationsThatClose() {
        Expect.by("It closes, if its last station is its first one, and the sum is 0: of 10 stations");
        TheodoliteRow row = Nets.withStations(3);
        row.observe(0, 1, 5, 1);
        row.observe(1, 2, 6, 1);
        row.observe(2, 0, -11, 1);
        for (int s = 0; s < 9; s++) {
            row.go(s % 3);
        }
        duePath(row, 9, 11, false);
        dueGo(row, 0, 10, 0, true);
        Nets.dueThrow(row, "go(1)", Expect.STATE, () -> row.go(1));
        duePath(row, 10, 0, true);
    }

    private static void closing() {
        Expect.by("It closes, if its last station is its first one, and the sum is 0");
        TheodoliteRow row = Nets.withStations(3);
        row.observe(0, 1, 100, 1);
        row.observe(1, 2, 50, 1);
        row.observe(2, 0, -150, 1);
        dueGo(row, 1, 1, 0, true);
        dueGo(row, 2, 2, 50, false);
        dueGo(row, 0, 3, -100, false);
        dueGo(row, 1, 4, 0, true);
        dueGo(row, 0, 5, -100, false);
        dueGo(row, 1, 6, 0, true);
    }

    private static void onlyOneOfBoth() {
        Expect.by("its last station is its first one, and the sum is 0: only one of both holds");
        TheodoliteRow row = Nets.withStations(3);
        row.observe(0, 1, 7, 1);
        row.observe(1, 2, -7, 1);
        row.observe(2, 0, 1, 1);
        goThrough(row, 0, 1, 2);
        duePath(row, 3, 0, false);
        dueGo(row, 0, 4, 1, false);
        row.end();
        goThrough(row, 0, 2, 1);
        dueGo(row, 0, 4, -1, false);
        row.end();
        TheodoliteRow level = Nets.withStations(2);
        level.observe(0, 1, 0, 1);
        dueGo(level, 0, 1, 0, true);
        dueGo(level, 1, 2, 0, false);
        dueGo(level, 0, 3, 0, true);
        Expect.by("its last station is its first one, not one on its way");
        row.end();
        goThrough(row, 0, 1, 2);
        dueGo(row, 1, 4, 7, false);
        row.end();
        goThrough(level, 1, 0, 1);
        duePath(level, 6, 0, false);
    }

    private static void joinedByNone() {
        Expect.by("promise 7: if no observation in the net joins it with the last one");
        TheodoliteRow row = Nets.withStations(4);
        row.observe(0, 1, 1, 1);
        row.observe(2, 1, 1, 1);
        row.go(0);
        Nets.dueThrow(row, "go(0), the same", Expect.STATE, () -> row.go(0));
        Nets.dueThrow(row, "go(2), of one part, by two observations", Expect.STATE, () -> row.go(2));
        Nets.dueThrow(row, "go(3), of another part", Expect.STATE, () -> row.go(3));
        dueGo(row, 1, 2, 1, false);
        row.withdraw(1, true);
        Nets.dueThrow(row, "go(2), withdrawn", Expect.STATE, () -> row.go(2));
        row.withdraw(1, false);
        dueGo(row, 2, 3, 0, false);
        Nets.dueThrow(row, "go(0), joined with the first, not with the last", Expect.STATE, () -> row.go(0));
        Expect.due("end()", 3, row::end);
    }

    private static void lowestObservation() {
        Expect.by("It goes along the lowest observation that joins them, by its direction");
        TheodoliteRow row = Nets.withStations(3);
        row.observe(1, 2, 1000, 1);
        row.observe(1, 0, 7, 1);
        row.observe(0, 1, 20, 5);
        row.observe(1, 0, 300, 2);
        row.go(0);
        dueGo(row, 1, 2, -7, false);
        dueGo(row, 0, 3, 0, true);
        row.withdraw(1, true);
        dueGo(row, 1, 4, 20, false);
        row.withdraw(2, true);
        dueGo(row, 0, 5, 320, false);
        row.withdraw(2, false);
        dueGo(row, 1, 6, 340, false);
        row.withdraw(1, false);
        dueGo(row, 0, 7, 347, false);
        Nets.dueThrow(row, "go(2), joined with the one before", Expect.STATE, () -> row.go(2));
    }

    private static void byWhichItWasGone() {
        Expect.by("promise 9: along the observations by which it was gone");
        TheodoliteRow row = Nets.ring();
        row.observe(0, 1, 500, 1);
        row.withdraw(0, true);
        goThrough(row, 0, 1);
        duePath(row, 2, 500, false);
        row.withdraw(0, false);
        duePath(row, 2, 500, false);
        row.withdraw(3, true);
        duePath(row, 2, 500, false);
        dueGo(row, 0, 3, 400, false);
        row.withdraw(1, true);
        row.withdraw(2, true);
        row.withdraw(0, true);
        row.station();
        row.datum(0, 9, true);
        duePath(row, 3, 400, false);
        Expect.due("end()", 3, row::end);
        duePath(row, 0, 0, false);
        Expect.by("promise 10: a closed one whose observations are withdrawn");
        row.withdraw(0, false);
        goThrough(row, 0, 1, 0);
        row.withdraw(0, true);
        duePath(row, 3, 0, true);
        Expect.due("end()", 3, row::end);
    }

    private static void goneOnAfterWithdrawal() {
        Expect.by("each and the next one joined by an observation in the net: in it when it is gone");
        TheodoliteRow row = Nets.ring();
        goThrough(row, 0, 1);
        Expect.due("clean(0)", 1, () -> row.clean(0));
        Nets.dueThrow(row, "go(0), withdrawn by cleaning", Expect.STATE, () -> row.go(0));
        dueGo(row, 2, 3, 150, false);
        dueGo(row, 0, 4, 3, false);
        row.withdraw(0, false);
        dueGo(row, 1, 5, 103, false);
        Expect.due("end()", 5, row::end);
    }

    private static void goneOnAfterAllElse() {
        Expect.by("nothing but go and end changes a path");
        TheodoliteRow row = Nets.ring();
        row.observe(0, 2, 1000, 1);
        goThrough(row, 1, 0);
        row.station();
        Nets.dueThrow(row, "go(3), not joined yet", Expect.STATE, () -> row.go(3));
        Expect.due("observe(3, 0, 8, 2)", 4, () -> row.observe(3, 0, 8, 2));
        duePath(row, 2, -100, false);
        row.datum(0, 5, true);
        row.datum(0, 5, false);
        row.withdraw(4, true);
        row.withdraw(4, false);
        Nets.allAnswers(row);
        row.clean(1000000000);
        duePath(row, 2, -100, false);
        dueGo(row, 3, 3, -108, false);
        dueGo(row, 0, 4, -100, false);
        dueGo(row, 1, 5, 0, true);
        Expect.due("end()", 5, row::end);
    }
}
