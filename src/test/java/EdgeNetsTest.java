/**
 * Nets at their edges: without stations, without observations, full; heights taken back; observations
 * withdrawn and restored, also one by whose withdrawal a part falls into two; what cleaning leaves.
 */
public final class EdgeNetsTest {
    public static void main(String[] args) {
        withoutStations();
        withoutObservations();
        stationAlone();
        sixStations();
        fourteenObservations();
        wayOfObservations();
        lowestTold();
        toldElsewhere();
        takenBack();
        withdrawnAndRestored();
        partFallsIntoTwo();
        allWithdrawn();
        cleanedToTheBound();
        cleanedOneByOne();
        cleanedAndRestored();
        asked();
        twoObjects();
        last();
        Expect.finish("EdgeNetsTest");
    }

    private static void dueHeight(TheodoliteRow row, int station, long want) {
        Expect.due("height(" + station + ")", want, () -> row.height(station));
        Expect.due("heightAnew(" + station + ")", want, () -> row.heightAnew(station));
    }

    private static void dueCheck(TheodoliteRow row, int observation, int want) {
        Expect.due("check(" + observation + ")", want, () -> row.check(observation));
        Expect.due("checkAnew(" + observation + ")", want, () -> row.checkAnew(observation));
    }

    private static void withoutStations() {
        Expect.by("promise 1: Begins without stations, with an empty path");
        TheodoliteRow row = new TheodoliteRow();
        Expect.due("parts()", 0, row::parts);
        Expect.due("worst()", -1, row::worst);
        Expect.due("clean(0)", 0, () -> row.clean(0));
        Expect.due("clean(1000000000)", 0, () -> row.clean(1000000000));
        Expect.due("sum()", 0, row::sum);
        Expect.due("isClosed()", false, row::isClosed);
        Expect.due("end()", 0, row::end);
        Expect.due("station()", 0, row::station);
        Expect.due("parts()", 1, row::parts);
    }

    private static void withoutObservations() {
        Expect.by("A part of the net is a station with all that are reached from it; a net without observations");
        for (int stations = 1; stations <= 6; stations++) {
            TheodoliteRow row = Nets.withStations(stations);
            Expect.due("parts()", stations, row::parts);
            Expect.due("worst()", TheodoliteRow.NONE, row::worst);
            Expect.due("clean(0)", 0, () -> row.clean(0));
            row.datum(0, 3, true);
            for (int s = 0; s < stations; s++) {
                int station = s;
                dueHeight(row, s, s == 0 ? 300 : 0);
                Expect.due("free(" + s + ")", 0, () -> row.free(station));
                Expect.due("trees(" + s + ")", 1, () -> row.trees(station));
            }
        }
    }

    private static void stationAlone() {
        Expect.by("promise 19: 1 for a station alone");
        TheodoliteRow row = Nets.ring();
        Expect.due("station()", 3, row::station);
        Expect.due("trees(3)", 1, () -> row.trees(3));
        Expect.due("trees(0), of the others", 3, () -> row.trees(0));
        dueHeight(row, 3, 0);
        dueHeight(row, 2, 14800);
        Expect.due("free(2), of the mean of its own part", 6566, () -> row.free(2));
        row.datum(3, -9999, true);
        dueHeight(row, 3, -999900);
        Expect.due("free(3)", 0, () -> row.free(3));
        Expect.due("trees(3)", 1, () -> row.trees(3));
        dueHeight(row, 2, 14800);
        Expect.due("parts()", 2, row::parts);
    }

    private static void sixStations() {
        Expect.by("Stations are numbered from 0, at most 6");
        TheodoliteRow row = new TheodoliteRow();
        for (int s = 0; s < 6; s++) {
            Expect.due("station()", s, row::station);
        }
        row.observe(0, 5, 31, 1);
        row.datum(5, 1, true);
        Nets.dueThrow(row, "station()", Expect.STATE, row::station);
        Expect.due("parts()", 5, row::parts);
        dueHeight(row, 0, -3000);
        row.withdraw(0, true);
        Nets.dueThrow(row, "station(), once more", Expect.STATE, row::station);
        Expect.due("parts()", 6, row::parts);
        dueHeight(row, 5, 100);
    }

    /** All pairs of six stations but one, the heaviest that can be: 864 trees of 5 observations, each of the weight 5. */
    private static TheodoliteRow heaviest() {
        TheodoliteRow row = Nets.withStations(6);
        int number = 0;
        for (int from = 0; from < 5; from++) {
            for (int to = from + 1; to < 6 && number < 14; to++) {
                row.observe(from, to, number % 3 == 0 ? -9999 : 9999, 5);
                number++;
            }
        }
        row.datum(0, 9999, true);
        return row;
    }

    private static void fourteenObservations() {
        Expect.by("Observations are numbered from 0, at most 14");
        TheodoliteRow row = Nets.withStations(6);
        for (int o = 0; o < 14; o++) {
            int number = o;
            Expect.due("observe(..)", o, () -> row.observe(number % 6, (number + 1) % 6, 1, 5));
        }
        Nets.dueThrow(row, "observe(0, 1, 0, 1)", Expect.STATE, () -> row.observe(0, 1, 0, 1));
        row.withdraw(0, true);
        row.withdraw(13, true);
        Nets.dueThrow(row, "observe(0, 1, 0, 1), two withdrawn", Expect.STATE, () -> row.observe(0, 1, 0, 1));
        TheodoliteRow full = heaviest();
        for (int s = 0; s < 6; s++) {
            int station = s;
            Expect.due("trees(" + s + ")", 2700000, () -> full.trees(station));
        }
        long[] heights = {999900, 666600, 1333200, 999900, 999900, 1999800};
        long[] frees = {-166650, -499950, 166650, -166650, -166650, 833250};
        for (int s = 0; s < 6; s++) {
            int station = s;
            dueHeight(full, s, heights[s]);
            Expect.due("free(" + s + ")", frees[s], () -> full.free(station));
        }
        long[] scores = {3336002702L, 3336002702L, 7506006081L, 7998400080L, 0, 834000675, 13344010810L,
            3554844480L, 888711120, 3336002702L, 14219377920L, 888711120, 7998400080L, 0};
        for (int o = 0; o < 14; o++) {
            int observation = o;
            boolean isOfLastTwo = o == 3 || o == 4 || o == 7 || o == 8 || o >= 10;
            dueCheck(full, o, isOfLastTwo ? 625 : 666);
            Expect.due("score(" + o + ")", scores[o], () -> full.score(observation));
        }
        Expect.due("worst()", 10, full::worst);
        Expect.due("residual(10)", -1333200, () -> full.residual(10));
        Expect.due("parts()", 1, full::parts);
    }

    private static void wayOfObservations() {
        Expect.by("reached from it by observations in the net, whichever way these go");
        TheodoliteRow row = Nets.withStations(6);
        row.observe(5, 0, 1, 1);
        row.observe(5, 4, 2, 2);
        row.observe(3, 4, 3, 3);
        row.observe(3, 2, 4, 4);
        row.observe(1, 2, 5, 5);
        Expect.due("parts()", 1, row::parts);
        Expect.due("trees(1)", 120, () -> row.trees(1));
        dueHeight(row, 5, -100);
        dueHeight(row, 4, 100);
        dueHeight(row, 3, -200);
        dueHeight(row, 2, 200);
        dueHeight(row, 1, -300);
    }

    private static void lowestTold() {
        Expect.by("the datum of a part is its lowest station with a told height, or, without one, its lowest station");
        TheodoliteRow row = Nets.withStations(6);
        row.observe(5, 3, 10, 1);
        row.observe(3, 1, 10, 1);
        dueHeight(row, 1, 0);
        dueHeight(row, 5, -2000);
        Expect.due("datum(5, 100, true)", false, () -> row.datum(5, 100, true));
        dueHeight(row, 5, 10000);
        dueHeight(row, 1, 12000);
        Expect.due("datum(3, 0, true)", false, () -> row.datum(3, 0, true));
        dueHeight(row, 3, 0);
        dueHeight(row, 5, -1000);
        Expect.due("datum(1, 7, true)", false, () -> row.datum(1, 7, true));
        dueHeight(row, 1, 700);
        dueHeight(row, 3, -300);
        Expect.due("residual(0), whatever is told", 0, () -> row.residual(0));
        Expect.due("score(0)", 0, () -> row.score(0));
        Expect.due("datum(5, -1, true), not the lowest", true, () -> row.datum(5, -1, true));
        dueHeight(row, 5, -1300);
    }

    private static void toldElsewhere() {
        Expect.by("the datum of a part is its lowest station with a told height: told heights of other parts");
        TheodoliteRow row = Nets.withStations(4);
        row.observe(2, 3, 5, 1);
        row.datum(0, 50, true);
        row.datum(3, 8, true);
        dueHeight(row, 2, 300);
        dueHeight(row, 1, 0);
        row.observe(0, 2, 1, 1);
        dueHeight(row, 2, 5100);
        dueHeight(row, 3, 5600);
        row.withdraw(1, true);
        dueHeight(row, 2, 300);
        dueHeight(row, 0, 5000);
    }

    private static void takenBack() {
        Expect.by("promise 3: Tells a height, or takes it back; Returns whether one was told");
        TheodoliteRow row = Nets.ring();
        Expect.due("datum(1, 0, false), never told", false, () -> row.datum(1, 0, false));
        Expect.due("datum(1, 0, true)", false, () -> row.datum(1, 0, true));
        dueHeight(row, 0, -9900);
        Expect.due("datum(1, 20, true), told anew", true, () -> row.datum(1, 20, true));
        dueHeight(row, 1, 2000);
        Expect.due("datum(2, 30, true)", false, () -> row.datum(2, 30, true));
        dueHeight(row, 2, 6900);
        Expect.due("datum(1, 20, false)", true, () -> row.datum(1, 20, false));
        dueHeight(row, 1, -1900);
        dueHeight(row, 2, 3000);
        Expect.due("datum(1, 20, false), once more", false, () -> row.datum(1, 20, false));
        Expect.due("datum(2, 0, false)", true, () -> row.datum(2, 0, false));
        dueHeight(row, 0, 0);
        dueHeight(row, 2, 14800);
        Expect.due("datum(0, 44, true)", false, () -> row.datum(0, 44, true));
        Expect.due("datum(0, 44, false)", true, () -> row.datum(0, 44, false));
        dueHeight(row, 0, 0);
        Expect.due("datum(0, 45, true), told after that", false, () -> row.datum(0, 45, true));
        dueHeight(row, 1, 14400);
    }

    private static void withdrawnAndRestored() {
        Expect.by("it may be withdrawn, and restored; promise 5: Returns whether it was withdrawn");
        TheodoliteRow row = Nets.ring();
        row.observe(0, 1, 400, 5);
        String before = Nets.allAnswers(row);
        Expect.due("withdraw(3, false), never withdrawn", false, () -> row.withdraw(3, false));
        Expect.due("all answers after that", before, () -> Nets.allAnswers(row));
        Expect.due("withdraw(3, true)", false, () -> row.withdraw(3, true));
        Expect.due("trees(0)", 3, () -> row.trees(0));
        dueHeight(row, 1, 9900);
        dueCheck(row, 0, 333);
        Expect.due("worst(), of those in the net", 0, row::worst);
        String without = Nets.allAnswers(row);
        Expect.due("withdraw(3, true), once more", true, () -> row.withdraw(3, true));
        Expect.due("all answers after that", without, () -> Nets.allAnswers(row));
        Expect.due("withdraw(3, false)", true, () -> row.withdraw(3, false));
        Expect.due("all answers as before it was withdrawn", before, () -> Nets.allAnswers(row));
        Expect.due("withdraw(3, false), once more", false, () -> row.withdraw(3, false));
        row.withdraw(1, true);
        Expect.due("the next number, one is withdrawn", 4, () -> row.observe(1, 2, 6, 1));
        Expect.due("withdraw(4, false), a new one is in the net", false, () -> row.withdraw(4, false));
        Expect.due("withdraw(1, true), it still is", true, () -> row.withdraw(1, true));
    }

    /** Two stations and three, joined by one observation alone. */
    private static TheodoliteRow bridge() {
        TheodoliteRow row = Nets.withStations(5);
        row.observe(0, 1, 10, 1);
        row.observe(1, 0, -12, 1);
        row.observe(1, 2, 5, 2);
        row.observe(2, 3, 7, 3);
        row.observe(3, 4, -1, 1);
        row.observe(4, 2, -5, 1);
        return row;
    }

    private static void dueHeights(TheodoliteRow row, long... heights) {
        for (int s = 0; s < heights.length; s++) {
            dueHeight(row, s, heights[s]);
        }
    }

    private static void dueFrees(TheodoliteRow row, long... frees) {
        for (int s = 0; s < frees.length; s++) {
            int station = s;
            Expect.due("free(" + s + ")", frees[s], () -> row.free(station));
        }
    }

    private static void dueTrees(TheodoliteRow row, long... trees) {
        for (int s = 0; s < trees.length; s++) {
            int station = s;
            Expect.due("trees(" + s + ")", trees[s], () -> row.trees(station));
        }
    }

    private static void partFallsIntoTwo() {
        Expect.by("It is 0, if the part falls into two without it; an observation by whose withdrawal it does");
        TheodoliteRow row = bridge();
        String before = Nets.allAnswers(row);
        dueCheck(row, 2, 0);
        Expect.due("score(2)", 0, () -> row.score(2));
        Expect.due("residual(2)", 0, () -> row.residual(2));
        Expect.due("parts()", 1, row::parts);
        dueHeights(row, 0, 1100, 1600, 2285, 2142);
        dueFrees(row, -1426, -326, 174, 860, 717);
        dueTrees(row, 28, 28, 28, 28, 28);
        row.withdraw(2, true);
        Expect.due("parts()", 2, row::parts);
        dueHeights(row, 0, 1100, 0, 685, 542);
        dueFrees(row, -550, 550, -410, 276, 133);
        dueTrees(row, 2, 2, 7, 7, 7);
        dueCheck(row, 0, 500);
        dueCheck(row, 3, 142);
        dueCheck(row, 5, 428);
        row.datum(1, 100, true);
        row.datum(3, -20, true);
        dueHeights(row, 8900, 10000, -2686, -2000, -2143);
        row.withdraw(2, false);
        Expect.due("parts()", 1, row::parts);
        dueHeights(row, 8900, 10000, 10500, 11185, 11042);
        dueTrees(row, 28, 28, 28, 28, 28);
        row.datum(1, 0, false);
        row.datum(3, 0, false);
        Expect.due("all answers as before", before, () -> Nets.allAnswers(row));
    }

    private static void allWithdrawn() {
        Expect.by("Those that are not withdrawn are in the net: none is");
        TheodoliteRow row = Nets.full();
        row.datum(5, 3, true);
        for (int o = 0; o < 14; o++) {
            int observation = o;
            Expect.due("withdraw(" + o + ", true)", false, () -> row.withdraw(observation, true));
        }
        Expect.due("parts()", 6, row::parts);
        Expect.due("worst()", TheodoliteRow.NONE, row::worst);
        Expect.due("clean(0)", 0, () -> row.clean(0));
        dueHeights(row, 0, 0, 0, 0, 0, 300);
        dueFrees(row, 0, 0, 0, 0, 0, 0);
        dueTrees(row, 1, 1, 1, 1, 1, 1);
    }

    private static void cleanedToTheBound() {
        Expect.by("withdraw the worst one, as long as its score is above the bound");
        TheodoliteRow row = Nets.withStations(2);
        row.observe(0, 1, 5000, 2);
        row.observe(0, 1, -5000, 2);
        Expect.due("score(1)", 1000000000, () -> row.score(1));
        Expect.due("clean(1000000000), alike is not above", 0, () -> row.clean(1000000000));
        Expect.due("clean(999999999)", 1, () -> row.clean(999999999));
        Expect.due("withdraw(0, false), of alike ones the lowest", true, () -> row.withdraw(0, false));
        Expect.due("withdraw(1, false)", false, () -> row.withdraw(1, false));
        Expect.by("promise 6: bound: 0 to 1000000000; all of a score above 0");
        TheodoliteRow least = Nets.withStations(6);
        for (int s = 0; s < 6; s++) {
            least.observe(s, (s + 1) % 6, s == 4 ? 1 : 0, 1);
        }
        Expect.due("score(3)", 1, () -> least.score(3));
        Expect.due("clean(1), alike is not above", 0, () -> least.clean(1));
        Expect.due("clean(0)", 1, () -> least.clean(0));
        Expect.due("clean(0), once more", 0, () -> least.clean(0));
        Expect.due("parts(), cleaning never divides one", 1, least::parts);
    }

    private static void cleanedOneByOne() {
        Expect.by("to withdraw the worst one, as long as: each is the worst of those that are left");
        TheodoliteRow row = Nets.withStations(2);
        int[] differences = {0, 1, 3, 300, 4, -100};
        for (int difference : differences) {
            row.observe(0, 1, difference, 1);
        }
        row.withdraw(2, true);
        Expect.due("clean(2000), those of 300 and -100", 2, () -> row.clean(2000));
        boolean[] isWithdrawn = {false, false, true, true, false, true};
        for (int o = 0; o < 6; o++) {
            int observation = o;
            Expect.due("withdraw(" + o + ", true)", isWithdrawn[o], () -> row.withdraw(observation, isWithdrawn[observation]));
        }
        dueHeight(row, 1, 166);
        Expect.due("clean(0), down to one", 2, () -> row.clean(0));
        Expect.due("trees(0)", 1, () -> row.trees(0));
        Expect.due("parts()", 1, row::parts);
        Expect.due("worst()", TheodoliteRow.NONE, row::worst);
        Expect.by("the score of each is in its own part");
        TheodoliteRow two = Nets.withStations(4);
        two.observe(0, 1, 0, 1);
        two.observe(0, 1, 10, 1);
        two.observe(2, 3, 0, 1);
        two.observe(2, 3, 20, 1);
        Expect.due("worst()", 2, two::worst);
        Expect.due("clean(0), one of each part", 2, () -> two.clean(0));
        dueHeights(two, 0, 1000, 0, 2000);
    }

    private static void cleanedAndRestored() {
        Expect.by("what is withdrawn by cleaning may be restored");
        TheodoliteRow row = Nets.ring();
        String before = Nets.allAnswers(row);
        Expect.due("clean(29)", 1, () -> row.clean(29));
        Nets.dueThrow(row, "residual(0)", Expect.STATE, () -> row.residual(0));
        dueHeight(row, 1, 9700);
        Expect.due("withdraw(0, false)", true, () -> row.withdraw(0, false));
        Expect.due("all answers as before", before, () -> Nets.allAnswers(row));
    }

    private static void asked() {
        Expect.by("state changes are those described: a question changes nothing, in whatever order one asks");
        TheodoliteRow row = Nets.full();
        row.datum(2, -7, true);
        row.withdraw(4, true);
        String first = Nets.allAnswers(row);
        Expect.due("all answers, once more", first, () -> Nets.allAnswers(row));
        TheodoliteRow twin = Nets.full();
        twin.datum(2, -7, true);
        twin.withdraw(4, true);
        for (int o = 13; o >= 0; o--) {
            int observation = o;
            Expect.answerOf(() -> twin.checkAnew(observation));
            Expect.answerOf(() -> twin.score(observation));
        }
        Expect.due("all answers of one that was asked backwards", first, () -> Nets.allAnswers(twin));
    }

    private static void twoObjects() {
        Expect.by("promise 1: each object begins by itself; two that are used in turn are as each alone");
        String ring = Nets.allAnswers(Nets.ring());
        String full = Nets.allAnswers(Nets.full());
        TheodoliteRow one = Nets.withStations(3);
        TheodoliteRow other = Nets.full();
        one.observe(0, 1, 100, 1);
        Expect.due("all answers of the full net", full, () -> Nets.allAnswers(other));
        one.observe(1, 2, 50, 1);
        other.withdraw(13, true);
        one.observe(2, 0, -147, 1);
        Expect.due("all answers of the ring", ring, () -> Nets.allAnswers(one));
        one.go(0);
        one.go(1);
        Expect.due("go(5) of the other", 1, () -> other.go(5));
        Expect.due("end() of the other", 1, other::end);
        Expect.due("sum()", 100, one::sum);
        Expect.due("withdraw(13, false) of the other", true, () -> other.withdraw(13, false));
        Expect.due("all answers of the full net again", full, () -> Nets.allAnswers(other));
        Expect.due("parts() of a third one", 0, () -> new TheodoliteRow().parts());
    }

    private static void last() {
        Expect.by("An object is used for at most 512 calls");
        TheodoliteRow row = Nets.ring();
        for (int call = 6; call < 510; call++) {
            boolean isThen = call % 2 == 0;
            Expect.due("withdraw(0, " + isThen + ")", !isThen, () -> row.withdraw(0, isThen));
        }
        Expect.due("call 511: height(2)", 14800, () -> row.height(2));
        Expect.due("call 512: checkAnew(0)", 333, () -> row.checkAnew(0));
    }
}
