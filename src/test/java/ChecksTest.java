/** Promises 6 and 15 to 18: clean, check, checkAnew, score, worst. */
public final class ChecksTest {
    public static void main(String[] args) {
        checks();
        scores();
        worstOfAlike();
        leastScore();
        cleaning();
        bounds();
        wrongInputs();
        Expect.finish("ChecksTest");
    }

    private static void dueCheck(TheodoliteRow row, int observation, int want) {
        Expect.due("check(" + observation + ")", want, () -> row.check(observation));
        Expect.due("checkAnew(" + observation + ")", want, () -> row.checkAnew(observation));
    }

    private static void checks() {
        TheodoliteRow row = Nets.ring();
        dueCheck(row, 0, 333);
        row.observe(0, 1, 400, 5);
        dueCheck(row, 3, 230);
        dueCheck(row, 0, 846);
        row.withdraw(2, true);
        dueCheck(row, 1, 0);
        dueCheck(row, 3, 166);
        dueCheck(row, 0, 833);
        row.withdraw(0, true);
        dueCheck(row, 3, 0);
        TheodoliteRow many = Nets.withStations(2);
        for (int o = 0; o < 14; o++) {
            many.observe(o % 2, 1 - o % 2, 0, o == 0 ? 1 : 5);
        }
        dueCheck(many, 0, 984);
        dueCheck(many, 13, 924);
        TheodoliteRow two = Nets.withStations(4);
        two.observe(0, 1, 0, 1);
        two.observe(0, 1, 0, 1);
        two.observe(2, 3, 0, 1);
        dueCheck(two, 0, 500);
        dueCheck(two, 2, 0);
    }

    private static void scores() {
        TheodoliteRow row = Nets.ring();
        Expect.due("score(0)", 30, () -> row.score(0));
        row.observe(0, 1, 400, 5);
        Expect.due("score(3), without its sign before it is rounded", 1048846, () -> row.score(3));
        TheodoliteRow pair = Nets.withStations(3);
        pair.observe(0, 1, 0, 1);
        pair.observe(0, 1, 1, 2);
        pair.observe(1, 2, 9999, 5);
        Expect.due("residual(1), -1/3", -34, () -> pair.residual(1));
        Expect.due("score(1), 33 times 33 times 2 by 333", 6, () -> pair.score(1));
        Expect.due("score(0), 66 times 66 by 666", 6, () -> pair.score(0));
        Expect.due("score(2), without a check", 0, () -> pair.score(2));
        Expect.due("worst(), the lower of alike ones", 0, pair::worst);
    }

    private static void worstOfAlike() {
        TheodoliteRow row = Nets.ring();
        Expect.due("worst()", 0, row::worst);
        row.observe(1, 2, 48, 1);
        Expect.due("worst()", 1, () -> worstByScores(row));
        Expect.due("worst()", 1, row::worst);
        row.withdraw(3, true);
        Expect.due("worst(), of those in the net", 0, row::worst);
        row.withdraw(0, true);
        Expect.due("worst(), no residual", TheodoliteRow.NONE, row::worst);
        TheodoliteRow exact = Nets.withStations(2);
        exact.observe(0, 1, 4, 3);
        exact.observe(1, 0, -4, 5);
        Expect.due("worst(), all exact", TheodoliteRow.NONE, exact::worst);
        Expect.due("clean(0), all exact", 0, () -> exact.clean(0));
    }

    private static void leastScore() {
        TheodoliteRow row = Nets.withStations(6);
        for (int s = 0; s < 6; s++) {
            row.observe(s, (s + 1) % 6, s == 4 ? 1 : 0, 1);
        }
        Expect.due("score(5), 16 times 16 by 166", 1, () -> row.score(5));
        Expect.due("worst(), all scores are 1", 0, row::worst);
        Expect.due("clean(1)", 0, () -> row.clean(1));
        Expect.due("clean(0)", 1, () -> row.clean(0));
    }

    private static int worstByScores(TheodoliteRow row) {
        int worst = TheodoliteRow.NONE;
        for (int o = 3; o >= 0; o--) {
            if (row.score(o) > 0 && (worst == TheodoliteRow.NONE || row.score(o) >= row.score(worst))) {
                worst = o;
            }
        }
        return worst;
    }

    private static void cleaning() {
        TheodoliteRow row = Nets.ring();
        Expect.due("clean(30), a score of 30 is not above", 0, () -> row.clean(30));
        Expect.due("clean(29)", 1, () -> row.clean(29));
        Expect.due("withdraw(0, true)", true, () -> row.withdraw(0, true));
        Expect.due("clean(0)", 0, () -> row.clean(0));
        TheodoliteRow many = Nets.withStations(2);
        for (int o = 0; o < 14; o++) {
            many.observe(0, 1, 50 * o * o, 1);
        }
        Expect.due("clean(0), one by one", 13, () -> many.clean(0));
        Expect.due("clean(0)", 0, () -> many.clean(0));
        Expect.due("worst()", TheodoliteRow.NONE, many::worst);
        Expect.due("trees(0)", 1, () -> many.trees(0));
        Expect.due("parts()", 1, many::parts);
    }

    private static void bounds() {
        TheodoliteRow row = Nets.withStations(2);
        row.observe(0, 1, 9999, 5);
        row.observe(0, 1, -9999, 5);
        Expect.due("score(0)", 9998000100L, () -> row.score(0));
        Nets.dueThrow(row, "clean(-1)", Expect.ARGUMENT, () -> row.clean(-1));
        Nets.dueThrow(row, "clean(1000000001)", Expect.ARGUMENT, () -> row.clean(1000000001));
        Nets.dueThrow(row, "clean(-2147483648)", Expect.ARGUMENT, () -> row.clean(Integer.MIN_VALUE));
        Nets.dueThrow(row, "clean(2147483647)", Expect.ARGUMENT, () -> row.clean(Integer.MAX_VALUE));
        Expect.due("clean(1000000000)", 1, () -> row.clean(1000000000));
        Expect.due("height(1)", -999900, () -> row.height(1));
        Expect.due("clean(0)", 0, () -> row.clean(0));
    }

    private static void wrongInputs() {
        TheodoliteRow row = Nets.ring();
        row.withdraw(1, true);
        int[] noObservations = {-1, 3, 14, Integer.MIN_VALUE, Integer.MAX_VALUE};
        for (int observation : noObservations) {
            Nets.dueThrow(row, "check", Expect.INDEX, () -> row.check(observation));
            Nets.dueThrow(row, "checkAnew", Expect.INDEX, () -> row.checkAnew(observation));
            Nets.dueThrow(row, "score", Expect.INDEX, () -> row.score(observation));
        }
        Nets.dueThrow(row, "check(1)", Expect.STATE, () -> row.check(1));
        Nets.dueThrow(row, "checkAnew(1)", Expect.STATE, () -> row.checkAnew(1));
        Nets.dueThrow(row, "score(1)", Expect.STATE, () -> row.score(1));
        row.withdraw(1, false);
        Expect.due("check(1)", 333, () -> row.check(1));
    }
}
