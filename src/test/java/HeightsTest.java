/** Promises 11 to 14, 19 and 20: height, heightAnew, free, residual, trees, parts. */
public final class HeightsTest {
    public static void main(String[] args) {
        ring();
        roundedDownBelowZero();
        partsAndDatums();
        weights();
        leastSum();
        farthest();
        wrongInputs();
        Expect.finish("HeightsTest");
    }

    private static void dueHeight(TheodoliteRow row, int station, long want) {
        Expect.due("height(" + station + ")", want, () -> row.height(station));
        Expect.due("heightAnew(" + station + ")", want, () -> row.heightAnew(station));
    }

    private static void ring() {
        TheodoliteRow row = Nets.ring();
        dueHeight(row, 0, 0);
        dueHeight(row, 1, 9900);
        dueHeight(row, 2, 14800);
        Expect.due("free(0)", -8234, () -> row.free(0));
        Expect.due("free(1)", 1666, () -> row.free(1));
        Expect.due("free(2)", 6566, () -> row.free(2));
        for (int o = 0; o < 3; o++) {
            int observation = o;
            Expect.due("residual(" + o + ")", -100, () -> row.residual(observation));
        }
        Expect.due("trees(2)", 3, () -> row.trees(2));
        row.datum(2, 100, true);
        dueHeight(row, 0, -4800);
        Expect.due("free(0), whatever the datum", -8234, () -> row.free(0));
        Expect.due("residual(1)", -100, () -> row.residual(1));
    }

    private static void roundedDownBelowZero() {
        TheodoliteRow row = Nets.withStations(2);
        row.observe(0, 1, 0, 1);
        row.observe(0, 1, 0, 1);
        row.observe(0, 1, -1, 1);
        dueHeight(row, 1, -34);
        Expect.due("residual(0), -1/3", -34, () -> row.residual(0));
        Expect.due("residual(2), 2/3", 66, () -> row.residual(2));
        Expect.due("free(1), -1/6", -17, () -> row.free(1));
        Expect.due("free(0), 1/6", 16, () -> row.free(0));
        row.datum(1, 0, true);
        dueHeight(row, 0, 33);
        row.datum(1, -1, true);
        dueHeight(row, 0, -67);
    }

    private static void partsAndDatums() {
        TheodoliteRow row = Nets.withStations(6);
        row.observe(5, 3, 11, 2);
        row.observe(4, 1, -20, 3);
        row.observe(1, 2, 8, 5);
        Expect.due("parts()", 3, row::parts);
        dueHeight(row, 3, 0);
        dueHeight(row, 5, -1100);
        dueHeight(row, 4, 2000);
        dueHeight(row, 2, 800);
        Expect.due("trees(0), alone", 1, () -> row.trees(0));
        Expect.due("free(0), alone", 0, () -> row.free(0));
        Expect.due("trees(4)", 15, () -> row.trees(4));
        Expect.due("trees(3)", 2, () -> row.trees(3));
        Expect.due("free(1)", -934, () -> row.free(1));
        row.datum(0, -3, true);
        row.datum(4, 50, true);
        row.datum(2, 7, true);
        row.datum(5, 0, true);
        dueHeight(row, 0, -300);
        Expect.due("free(0), alone and told", 0, () -> row.free(0));
        dueHeight(row, 4, 1900);
        dueHeight(row, 2, 700);
        dueHeight(row, 3, 1100);
        row.withdraw(2, true);
        Expect.due("parts()", 4, row::parts);
        dueHeight(row, 2, 700);
        dueHeight(row, 4, 5000);
        dueHeight(row, 1, 3000);
        Expect.due("trees(4)", 3, () -> row.trees(4));
        row.observe(0, 5, 0, 1);
        Expect.due("parts()", 3, row::parts);
        dueHeight(row, 5, -300);
        dueHeight(row, 3, 800);
    }

    private static void weights() {
        TheodoliteRow row = Nets.withStations(2);
        row.observe(0, 1, 100, 5);
        row.observe(1, 0, 0, 1);
        dueHeight(row, 1, 8333);
        Expect.due("residual(0)", -1667, () -> row.residual(0));
        Expect.due("residual(1)", -8334, () -> row.residual(1));
        Expect.due("trees(1)", 6, () -> row.trees(1));
        TheodoliteRow full = Nets.full();
        Expect.due("parts()", 1, full::parts);
        Expect.due("trees alike for all", full.trees(0), () -> full.trees(5));
        for (int s = 0; s < 6; s++) {
            int station = s;
            Expect.due("height as anew", full.heightAnew(station), () -> full.height(station));
        }
    }

    /** Nets whose adjusted heights are whole hundredths: no heights beside them have as small a sum. */
    private static void leastSum() {
        Expect.by("for which the sum of each weight times the square of the residual is least");
        dueLeast(3, new int[][] {{0, 1, 100, 1}, {1, 2, 50, 1}, {2, 0, -147, 1}});
        dueLeast(2, new int[][] {{0, 1, 7, 1}, {1, 0, 9, 3}});
        dueLeast(4, new int[][] {{0, 1, 5, 2}, {2, 1, -8, 1}, {2, 3, 11, 2}, {0, 3, 6, 1}, {3, 0, 1, 1}});
    }

    private static void dueLeast(int stations, int[][] observed) {
        TheodoliteRow row = Nets.withStations(stations);
        for (int[] one : observed) {
            row.observe(one[0], one[1], one[2], one[3]);
        }
        long[] heights = new long[stations];
        for (int s = 0; s < stations; s++) {
            heights[s] = row.height(s);
        }
        long least = sumOf(heights, observed);
        for (int s = 1; s < stations; s++) {
            for (int shift = -1; shift <= 1; shift += 2) {
                heights[s] += shift;
                long beside = sumOf(heights, observed);
                heights[s] -= shift;
                int station = s;
                Expect.due("a greater sum with station " + s + " moved", true, () -> beside > least);
                Expect.due("its height anew", heights[s], () -> row.heightAnew(station));
            }
        }
    }

    private static long sumOf(long[] heights, int[][] observed) {
        long sum = 0;
        for (int[] one : observed) {
            long residual = heights[one[1]] - heights[one[0]] - 100L * one[2];
            sum += one[3] * residual * residual;
        }
        return sum;
    }

    private static void farthest() {
        TheodoliteRow row = Nets.withStations(6);
        for (int s = 0; s < 5; s++) {
            row.observe(s, s + 1, -9999, 5);
        }
        row.datum(0, -9999, true);
        dueHeight(row, 5, -5999400);
        Expect.due("trees(5)", 3125, () -> row.trees(5));
        Expect.due("free(0)", 2499750, () -> row.free(0));
        Expect.due("free(5)", -2499750, () -> row.free(5));
        Expect.due("residual(4)", 0, () -> row.residual(4));
        row.observe(0, 5, 9999, 1);
        Expect.due("trees(5)", 6250, () -> row.trees(5));
        dueHeight(row, 5, -2999700);
        Expect.due("residual(5)", -2999700, () -> row.residual(5));
    }

    private static void wrongInputs() {
        int[] noStations = {-1, 3, 6, Integer.MIN_VALUE, Integer.MAX_VALUE};
        for (int station : noStations) {
            TheodoliteRow row = Nets.ring();
            Nets.dueThrow(row, "height", Expect.INDEX, () -> row.height(station));
            Nets.dueThrow(row, "heightAnew", Expect.INDEX, () -> row.heightAnew(station));
            Nets.dueThrow(row, "free", Expect.INDEX, () -> row.free(station));
            Nets.dueThrow(row, "trees", Expect.INDEX, () -> row.trees(station));
            Nets.dueThrow(row, "residual", Expect.INDEX, () -> row.residual(station));
        }
        TheodoliteRow row = Nets.ring();
        row.withdraw(1, true);
        Nets.dueThrow(row, "residual(1), withdrawn", Expect.STATE, () -> row.residual(1));
        Expect.due("residual(0)", 0, () -> row.residual(0));
    }
}
