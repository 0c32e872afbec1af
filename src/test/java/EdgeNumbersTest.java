/** Numbers at their edges: what is rounded down below 0, checks and scores of 0, no worst one, the greatest numbers. */
public final class EdgeNumbersTest {
    public static void main(String[] args) {
        heightsBelowZero();
        freeHeightsBelowZero();
        residualsBelowZero();
        exactBelowZero();
        checksRoundedDown();
        checksOfZero();
        numberInTheScore();
        checkAsTold();
        scoresOfZero();
        worst();
        worstOfSeveralParts();
        greatest();
        Expect.finish("EdgeNumbersTest");
    }

    private static void dueHeight(TheodoliteRow row, int station, long want) {
        Expect.due("height(" + station + ")", want, () -> row.height(station));
        Expect.due("heightAnew(" + station + ")", want, () -> row.heightAnew(station));
    }

    private static void dueCheck(TheodoliteRow row, int observation, int want) {
        Expect.due("check(" + observation + ")", want, () -> row.check(observation));
        Expect.due("checkAnew(" + observation + ")", want, () -> row.checkAnew(observation));
    }

    private static void dueResidual(TheodoliteRow row, int observation, long want) {
        Expect.due("residual(" + observation + ")", want, () -> row.residual(observation));
    }

    private static void dueScore(TheodoliteRow row, int observation, long want) {
        Expect.due("score(" + observation + ")", want, () -> row.score(observation));
    }

    private static void heightsBelowZero() {
        Expect.by("told in hundredths of a millimetre, rounded down (also below 0): heights");
        TheodoliteRow row = Nets.withStations(2);
        row.observe(0, 1, 0, 2);
        row.observe(0, 1, 1, 1);
        dueHeight(row, 1, 33);
        row.datum(1, 0, true);
        dueHeight(row, 0, -34);
        row.datum(1, 9999, true);
        dueHeight(row, 0, 999866);
        row.datum(1, -9999, true);
        dueHeight(row, 0, -999934);
        TheodoliteRow tiny = Nets.withStations(4);
        tiny.observe(0, 2, -2, 1);
        tiny.observe(1, 3, 1, 5);
        tiny.observe(2, 0, 1, 1);
        tiny.observe(3, 2, 0, 3);
        tiny.observe(1, 0, 0, 4);
        tiny.observe(0, 2, -1, 3);
        dueHeight(tiny, 3, -1);
        dueHeight(tiny, 1, -56);
        dueHeight(tiny, 2, -76);
        tiny.datum(3, 0, true);
        dueHeight(tiny, 0, 0);
        dueHeight(tiny, 3, 0);
    }

    private static void freeHeightsBelowZero() {
        Expect.by("told in hundredths of a millimetre, rounded down (also below 0): free heights");
        TheodoliteRow row = Nets.withStations(4);
        row.observe(2, 3, 0, 4);
        row.observe(0, 1, -1, 2);
        row.observe(2, 1, 1, 3);
        row.observe(0, 3, 0, 5);
        long[] frees = {30, 8, -40, -1};
        for (int s = 0; s < 4; s++) {
            int station = s;
            Expect.due("free(" + s + ")", frees[s], () -> row.free(station));
        }
        row.datum(2, -9999, true);
        for (int s = 0; s < 4; s++) {
            int station = s;
            Expect.due("free(" + s + "), whatever is told", frees[s], () -> row.free(station));
        }
        Expect.by("The free height of a station is its adjusted height less the mean of those of its part");
        TheodoliteRow three = Nets.withStations(4);
        three.observe(0, 1, 1, 1);
        three.observe(3, 0, 0, 1);
        three.datum(2, 9999, true);
        Expect.due("free(0), -1/3", -34, () -> three.free(0));
        Expect.due("free(1), 2/3", 66, () -> three.free(1));
        Expect.due("free(3), -1/3", -34, () -> three.free(3));
        Expect.due("free(2), alone", 0, () -> three.free(2));
    }

    private static void residualsBelowZero() {
        Expect.by("told in hundredths of a millimetre, rounded down (also below 0): residuals");
        TheodoliteRow row = tinyResiduals();
        long[] residuals = {-70, -30, -30, -1, -1, -101};
        for (int o = 0; o < 6; o++) {
            dueResidual(row, o, residuals[o]);
        }
        Expect.by("the height of the station to which it goes, less that from which it comes, less what was observed");
        TheodoliteRow pair = Nets.withStations(2);
        pair.observe(0, 1, 2, 1);
        pair.observe(1, 0, 1, 2);
        dueHeight(pair, 1, 0);
        dueResidual(pair, 0, -200);
        dueResidual(pair, 1, -100);
    }

    private static TheodoliteRow tinyResiduals() {
        TheodoliteRow row = Nets.withStations(3);
        row.observe(0, 2, 0, 3);
        row.observe(1, 0, 0, 4);
        row.observe(1, 0, 0, 3);
        row.observe(2, 1, 1, 3);
        row.observe(2, 1, 1, 4);
        row.observe(2, 1, 2, 2);
        return row;
    }

    private static void exactBelowZero() {
        Expect.by("rounded down (also below 0): what is exact stays as it is");
        TheodoliteRow row = Nets.withStations(2);
        row.observe(0, 1, 0, 5);
        row.observe(0, 1, 0, 5);
        row.observe(0, 1, 0, 5);
        row.observe(0, 1, 0, 4);
        row.observe(0, 1, -1, 1);
        dueHeight(row, 1, -5);
        dueResidual(row, 0, -5);
        dueResidual(row, 4, 95);
        Expect.due("free(1), half a hundredth off", -3, () -> row.free(1));
        Expect.due("free(0)", 2, () -> row.free(0));
        dueCheck(row, 0, 750);
        dueCheck(row, 3, 800);
        dueCheck(row, 4, 950);
        dueScore(row, 4, 9);
        TheodoliteRow one = Nets.withStations(2);
        one.observe(0, 1, -2, 1);
        dueHeight(one, 1, -200);
        Expect.due("free(1)", -100, () -> one.free(1));
        Expect.due("free(0)", 100, () -> one.free(0));
    }

    private static void checksRoundedDown() {
        Expect.by("told in thousandths, rounded down");
        TheodoliteRow ring = Nets.withStations(6);
        for (int s = 0; s < 5; s++) {
            ring.observe(s, s + 1, 0, 1);
        }
        ring.observe(5, 0, 0, 5);
        dueCheck(ring, 0, 192);
        dueCheck(ring, 5, 38);
        TheodoliteRow many = Nets.withStations(2);
        many.observe(0, 1, 0, 1);
        for (int o = 1; o < 14; o++) {
            many.observe(0, 1, 0, 5);
        }
        dueCheck(many, 0, 984);
        dueCheck(many, 1, 924);
        TheodoliteRow three = Nets.withStations(2);
        three.observe(0, 1, 0, 1);
        three.observe(1, 0, 0, 1);
        three.observe(0, 1, 0, 1);
        dueCheck(three, 1, 666);
    }

    private static void checksOfZero() {
        Expect.by("It is 0, if the part falls into two without it");
        TheodoliteRow row = Nets.withStations(6);
        for (int s = 0; s < 5; s++) {
            row.observe(s + 1, s, 9999, 5);
        }
        for (int o = 0; o < 5; o++) {
            dueCheck(row, o, 0);
            dueResidual(row, o, 0);
            dueScore(row, o, 0);
        }
        Expect.due("worst()", TheodoliteRow.NONE, row::worst);
        Expect.due("clean(0)", 0, () -> row.clean(0));
        row.observe(5, 4, 0, 1);
        dueCheck(row, 3, 0);
        dueCheck(row, 4, 166);
        dueCheck(row, 5, 833);
        row.withdraw(4, true);
        dueCheck(row, 5, 0);
        Expect.due("parts()", 1, row::parts);
    }

    private static void numberInTheScore() {
        Expect.by("its residual, taken without its sign first, in hundredths, and then rounded down");
        TheodoliteRow row = Nets.withStations(3);
        row.observe(2, 0, -2, 3);
        row.observe(2, 0, 1, 4);
        row.observe(1, 2, 0, 5);
        dueResidual(row, 0, 171);
        dueResidual(row, 1, -129);
        dueScore(row, 0, 153);
        dueScore(row, 1, 153);
        dueScore(row, 2, 0);
        Expect.due("worst(), of alike ones the lowest", 0, row::worst);
    }

    private static void checkAsTold() {
        Expect.by("divided by its check as told; rounded down");
        TheodoliteRow row = Nets.withStations(6);
        for (int s = 0; s < 6; s++) {
            row.observe(s, (s + 1) % 6, 9999, 5);
        }
        dueCheck(row, 0, 166);
        dueResidual(row, 0, -999900);
        dueScore(row, 0, 30114458132L);
        Expect.due("worst()", 0, row::worst);
    }

    private static void scoresOfZero() {
        Expect.by("0, if that check is 0; a score of 0 by a number of 0, and by rounding down");
        TheodoliteRow row = tinyResiduals();
        dueCheck(row, 3, 729);
        dueScore(row, 3, 0);
        dueScore(row, 4, 0);
        long[] scores = {25, 5, 3, 0, 0, 24};
        for (int o = 0; o < 6; o++) {
            dueScore(row, o, scores[o]);
        }
        TheodoliteRow pair = Nets.withStations(2);
        pair.observe(1, 0, -1, 5);
        pair.observe(1, 0, 2, 2);
        pair.observe(1, 0, 0, 3);
        dueResidual(pair, 2, -10);
        dueScore(pair, 2, 0);
        dueScore(pair, 0, 81);
        dueScore(pair, 1, 110);
    }

    private static void worst() {
        Expect.by("The worst observation is the one with the greatest score, of alike ones the lowest; none, if all are 0");
        TheodoliteRow row = Nets.withStations(4);
        Expect.due("worst(), without observations", -1, row::worst);
        row.observe(3, 2, 5, 1);
        Expect.due("worst(), one alone", -1, row::worst);
        row.observe(2, 3, -5, 4);
        Expect.due("worst(), all residuals are 0", -1, row::worst);
        row.observe(1, 0, 6, 2);
        row.observe(0, 1, -8, 2);
        Expect.due("worst(), of alike ones", 2, row::worst);
        row.observe(3, 2, 9, 1);
        Expect.due("worst()", 4, row::worst);
        dueScore(row, 4, 133);
        dueScore(row, 2, 40);
        row.withdraw(4, true);
        Expect.due("worst(), that one withdrawn", 2, row::worst);
        row.withdraw(2, true);
        Expect.due("worst(), none again", -1, row::worst);
        row.withdraw(2, false);
        row.withdraw(4, false);
        Expect.due("worst(), restored", 4, row::worst);
    }

    private static void worstOfSeveralParts() {
        Expect.by("of alike ones the lowest: also when they are of several parts");
        TheodoliteRow row = Nets.withStations(4);
        row.observe(3, 2, 0, 1);
        row.observe(0, 1, 7, 1);
        row.observe(0, 1, 1, 1);
        row.observe(2, 3, 6, 1);
        for (int o = 0; o < 4; o++) {
            dueScore(row, o, 180);
        }
        Expect.due("worst()", 0, row::worst);
        row.withdraw(0, true);
        Expect.due("worst(), without that part's", 1, row::worst);
        row.withdraw(0, false);
        row.withdraw(1, true);
        Expect.due("worst(), without the other part's", 0, row::worst);
        Expect.due("clean(179)", 1, () -> row.clean(179));
        Expect.due("withdraw(0, true)", true, () -> row.withdraw(0, true));
    }

    private static void greatest() {
        Expect.by("These are exact numbers: the greatest heights");
        TheodoliteRow chain = Nets.withStations(6);
        for (int s = 0; s < 5; s++) {
            chain.observe(s, s + 1, 9999, 1);
        }
        chain.datum(0, 9999, true);
        dueHeight(chain, 5, 5999400);
        Expect.due("free(0)", -2499750, () -> chain.free(0));
        Expect.due("free(5)", 2499750, () -> chain.free(5));
        chain.datum(0, 0, false);
        chain.datum(5, -9999, true);
        dueHeight(chain, 0, -5999400);
        Expect.by("These are exact numbers: the greatest residuals and scores");
        TheodoliteRow ring = heavyRing(9999, 1);
        dueResidual(ring, 13, -4285286);
        dueScore(ring, 13, 25719422312L);
        dueScore(ring, 0, 598357179);
        dueHeight(ring, 5, 3285385);
        Expect.due("free(0)", -1714115, () -> ring.free(0));
        Expect.due("trees(0)", 472500, () -> ring.trees(0));
        ring.withdraw(13, true);
        dueHeight(ring, 5, 4999500);
        dueResidual(heavyRing(-9999, 1), 13, 4285285);
        dueResidual(heavyRing(9999, 5), 13, -1999800);
        dueResidual(heavyRing(-9999, 5), 13, 1999800);
        TheodoliteRow heavier = heavyRing(9999, 5);
        dueScore(heavier, 13, 60048048648L);
        dueScore(heavier, 9, 8574614150L);
        Expect.due("worst()", 13, heavier::worst);
        Expect.due("clean(1000000000)", 1, () -> heavier.clean(1000000000));
        Expect.due("withdraw(13, true)", true, () -> heavier.withdraw(13, true));
    }

    /** A ring of 14 observations that all go one way round; the last one alone is by itself from 5 to 0. */
    private static TheodoliteRow heavyRing(int difference, int weightOfLast) {
        TheodoliteRow ring = Nets.withStations(6);
        int[] times = {3, 3, 3, 2, 2};
        for (int s = 0; s < 5; s++) {
            for (int time = 0; time < times[s]; time++) {
                ring.observe(s, s + 1, difference, 5);
            }
        }
        ring.observe(5, 0, difference, weightOfLast);
        return ring;
    }
}
