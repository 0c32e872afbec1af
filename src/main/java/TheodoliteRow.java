/**
 * Adjusts nets of heights: observed differences of height with weights, exact adjusted heights,
 * checks, blunders and paths. What each call promises is told in ../shared/DOC.md.
 */
public final class TheodoliteRow {
    /** There is none. */
    public static final int NONE = -1;

    private static final int MOST_STATIONS = 6;
    private static final int MOST_OBSERVATIONS = 14;
    private static final int MOST_ON_PATH = 10;
    private static final int MOST_MILLIMETRES = 9999;
    private static final int MOST_WEIGHT = 5;
    private static final int MOST_BOUND = 1000000000;
    private static final long HUNDREDTHS = 100L;
    private static final long THOUSANDTHS = 1000L;

    private final Net net;
    private final Adjustment adjustment;
    private final TreeWalk treeWalk;
    private final Path path;

    /** Begins without stations, with an empty path. */
    public TheodoliteRow() {
        net = new Net();
        adjustment = new Adjustment(net);
        treeWalk = new TreeWalk(net);
        path = new Path();
    }

    // ---- stations, observations

    /** Sets a station up; returns its number. */
    public int station() throws IllegalStateException {
        if (net.stations >= MOST_STATIONS) {
            throw new IllegalStateException("there are 6 stations");
        }
        return net.addStation();
    }

    /** Tells a height, or takes it back; returns whether one was told. */
    public boolean datum(int station, int height, boolean isTold)
            throws IndexOutOfBoundsException, IllegalArgumentException {
        needStation(station);
        if (isTold && isBeyond(height, -MOST_MILLIMETRES, MOST_MILLIMETRES)) {
            throw new IllegalArgumentException("a height is from -9999 to 9999");
        }
        return net.tellHeight(station, height, isTold);
    }

    /** Observes a difference; returns the number of the observation. */
    public int observe(int from, int to, int difference, int weight)
            throws IndexOutOfBoundsException, IllegalArgumentException, IllegalStateException {
        needStation(from);
        needStation(to);
        if (from == to) {
            throw new IllegalArgumentException("an observation is between two stations");
        }
        if (isBeyond(difference, -MOST_MILLIMETRES, MOST_MILLIMETRES)) {
            throw new IllegalArgumentException("a difference is from -9999 to 9999");
        }
        if (isBeyond(weight, 1, MOST_WEIGHT)) {
            throw new IllegalArgumentException("a weight is from 1 to 5");
        }
        if (net.observations >= MOST_OBSERVATIONS) {
            throw new IllegalStateException("there are 14 observations");
        }
        return net.addObservation(from, to, difference, weight);
    }

    /** Withdraws an observation, or restores it; returns whether it was withdrawn. */
    public boolean withdraw(int observation, boolean is) throws IndexOutOfBoundsException {
        needObservation(observation);
        return net.setWithdrawn(observation, is);
    }

    /** Cleans the net; returns how many are withdrawn by that. */
    public int clean(int bound) throws IllegalArgumentException {
        if (isBeyond(bound, 0, MOST_BOUND)) {
            throw new IllegalArgumentException("a bound is from 0 to 1000000000");
        }
        for (int withdrawn = 0; withdrawn < MOST_OBSERVATIONS; withdrawn++) {
            int blunder = adjustment.worstObservation();
            if (blunder == NONE || adjustment.scoreOf(blunder) <= bound) {
                return withdrawn;
            }
            net.setWithdrawn(blunder, true);
        }
        return MOST_OBSERVATIONS;
    }

    // ---- paths

    /** Goes on with the path to a station, or begins it there; returns how many stations it has then. */
    public int go(int station) throws IndexOutOfBoundsException, IllegalStateException {
        needStation(station);
        if (path.length >= MOST_ON_PATH) {
            throw new IllegalStateException("the path has 10 stations");
        }
        if (path.length == 0) {
            return path.begin(station);
        }
        int observation = net.lowestBetween(path.last, station);
        if (observation == NONE) {
            throw new IllegalStateException("no observation in the net joins the stations");
        }
        return path.goOn(station, net.differenceFrom(path.last, observation));
    }

    /** Empties the path; returns how many stations it had. */
    public int end() {
        return path.clear();
    }

    /** Returns the sum of the path, along the observations by which it was gone. */
    public int sum() {
        return path.total;
    }

    /** Returns whether the path closes; false without a station. */
    public boolean isClosed() {
        return path.length > 0 && path.first == path.last && path.total == 0;
    }

    // ---- questions

    /** Returns the adjusted height of a station. */
    public long height(int station) throws IndexOutOfBoundsException {
        needStation(station);
        return adjustment.heightOf(station);
    }

    /** Returns the same, found by all trees. */
    public long heightAnew(int station) throws IndexOutOfBoundsException {
        needStation(station);
        return treeWalk.heightOf(station);
    }

    /** Returns the free height of a station. */
    public long free(int station) throws IndexOutOfBoundsException {
        needStation(station);
        return adjustment.freeHeightOf(station);
    }

    /** Returns the residual of an observation. */
    public long residual(int observation) throws IndexOutOfBoundsException, IllegalStateException {
        needObservationInNet(observation);
        return adjustment.residualOf(observation);
    }

    /** Returns the check of an observation. */
    public int check(int observation) throws IndexOutOfBoundsException, IllegalStateException {
        needObservationInNet(observation);
        return adjustment.checkOf(observation);
    }

    /** Returns the same, found by all trees. */
    public int checkAnew(int observation) throws IndexOutOfBoundsException, IllegalStateException {
        needObservationInNet(observation);
        return treeWalk.checkOf(observation);
    }

    /** Returns the score of an observation. */
    public long score(int observation) throws IndexOutOfBoundsException, IllegalStateException {
        needObservationInNet(observation);
        return adjustment.scoreOf(observation);
    }

    /** Returns the worst observation; NONE if there is none. */
    public int worst() {
        return adjustment.worstObservation();
    }

    /** Returns the sum of the weights of all trees of the part of a station; 1 for a station alone. */
    public long trees(int station) throws IndexOutOfBoundsException {
        needStation(station);
        return adjustment.treeWeightOf(station);
    }

    /** Returns how many parts the net has. */
    public int parts() {
        return net.countParts();
    }

    // ---- what the calls share

    private void needStation(int station) {
        if (!net.hasStation(station)) {
            throw new IndexOutOfBoundsException("there is no such station");
        }
    }

    private void needObservation(int observation) {
        if (!net.hasObservation(observation)) {
            throw new IndexOutOfBoundsException("there is no such observation");
        }
    }

    private void needObservationInNet(int observation) {
        needObservation(observation);
        if (net.isWithdrawn[observation]) {
            throw new IllegalStateException("the observation is withdrawn");
        }
    }

    private static boolean isBeyond(int value, int least, int most) {
        return value < least || value > most;
    }

    /** A quotient rounded down, also below 0. No sum of trees is ever 0: the 0 here only keeps the division safe. */
    private static long roundedDown(long dividend, long divisor) {
        return divisor == 0L ? 0L : Math.floorDiv(dividend, divisor);
    }

    /** Stations and observations, and the parts into which the net falls. */
    private static final class Net {
        int stations;
        final boolean[] isTold;
        final int[] toldHeight;
        /** By station: the lowest station of its part; kept right with every change. */
        final int[] lowest;

        int observations;
        final int[] from;
        final int[] to;
        final int[] difference;
        final int[] weight;
        final boolean[] isWithdrawn;

        Net() {
            isTold = new boolean[MOST_STATIONS];
            toldHeight = new int[MOST_STATIONS];
            lowest = new int[MOST_STATIONS];
            from = new int[MOST_OBSERVATIONS];
            to = new int[MOST_OBSERVATIONS];
            difference = new int[MOST_OBSERVATIONS];
            weight = new int[MOST_OBSERVATIONS];
            isWithdrawn = new boolean[MOST_OBSERVATIONS];
        }

        boolean hasStation(int station) {
            return station >= 0 && station < stations;
        }

        boolean hasObservation(int observation) {
            return observation >= 0 && observation < observations;
        }

        int addStation() {
            int added = stations;
            stations = added + 1;
            markParts();
            return added;
        }

        boolean tellHeight(int station, int height, boolean isNowTold) {
            boolean wasTold = isTold[station];
            isTold[station] = isNowTold;
            toldHeight[station] = isNowTold ? height : 0;
            return wasTold;
        }

        int addObservation(int begin, int end, int observed, int itsWeight) {
            int added = observations;
            from[added] = begin;
            to[added] = end;
            difference[added] = observed;
            weight[added] = itsWeight;
            observations = added + 1;
            markParts();
            return added;
        }

        boolean setWithdrawn(int observation, boolean is) {
            boolean was = isWithdrawn[observation];
            isWithdrawn[observation] = is;
            markParts();
            return was;
        }

        private void markParts() {
            for (int s = 0; s < stations; s++) {
                lowest[s] = s;
            }
            for (int o = 0; o < observations; o++) {
                if (!isWithdrawn[o]) {
                    mergeParts(lowest[from[o]], lowest[to[o]]);
                }
            }
        }

        private void mergeParts(int one, int other) {
            int low = Math.min(one, other);
            int high = Math.max(one, other);
            for (int s = 0; s < stations; s++) {
                if (lowest[s] == high) {
                    lowest[s] = low;
                }
            }
        }

        int countParts() {
            int count = 0;
            for (int s = 0; s < stations; s++) {
                if (lowest[s] == s) {
                    count++;
                }
            }
            return count;
        }

        int countStationsWith(int station) {
            int count = 0;
            for (int s = 0; s < stations; s++) {
                if (areInOnePart(s, station)) {
                    count++;
                }
            }
            return count;
        }

        boolean areInOnePart(int one, int other) {
            return lowest[one] == lowest[other];
        }

        /** Whether an observation is in the net, and in the part of a station. */
        boolean isInPartOf(int observation, int station) {
            return !isWithdrawn[observation] && areInOnePart(from[observation], station);
        }

        int datumOf(int station) {
            for (int s = 0; s < stations; s++) {
                if (isTold[s] && areInOnePart(s, station)) {
                    return s;
                }
            }
            return lowest[station];
        }

        int lowestBetween(int one, int other) {
            for (int o = 0; o < observations; o++) {
                boolean isForth = from[o] == one && to[o] == other;
                boolean isBack = from[o] == other && to[o] == one;
                if (!isWithdrawn[o] && (isForth || isBack)) {
                    return o;
                }
            }
            return NONE;
        }

        int differenceFrom(int station, int observation) {
            return from[observation] == station ? difference[observation] : -difference[observation];
        }
    }

    /** A path keeps its sum as it was gone: what is withdrawn later does not change it. */
    private static final class Path {
        int length;
        int first;
        int last;
        int total;

        Path() {
            length = 0;
        }

        int begin(int station) {
            first = station;
            last = station;
            length = 1;
            return length;
        }

        int goOn(int station, int rise) {
            last = station;
            total = total + rise;
            length = length + 1;
            return length;
        }

        int clear() {
            int had = length;
            length = 0;
            total = 0;
            return had;
        }
    }

    /**
     * The normal equations of one part, solved in whole numbers. The unknowns are the rises of the
     * stations above the datum; the determinant of the equations is the sum of the weights of all trees.
     */
    private static final class Adjustment {
        private static final int RIGHT_SIDE = MOST_STATIONS - 1;

        private final Net net;
        /** By station: its row in the equations, or NONE for the datum and for other parts. */
        private final int[] rowOf;
        private final long[][] cells;
        private int unknowns;
        private int datum;
        /** After solve: what all rises are divided by. */
        private long treeWeight;

        Adjustment(Net net) {
            this.net = net;
            rowOf = new int[MOST_STATIONS];
            cells = new long[MOST_STATIONS - 1][MOST_STATIONS];
        }

        long heightOf(int station) {
            solve(station, NONE);
            long overAll = riseOf(station) + net.toldHeight[datum] * treeWeight;
            return roundedDown(HUNDREDTHS * overAll, treeWeight);
        }

        long freeHeightOf(int station) {
            solve(station, NONE);
            long sumOfRises = 0L;
            for (int s = 0; s < net.stations; s++) {
                sumOfRises += riseOf(s);
            }
            long size = unknowns + 1L;
            return roundedDown(HUNDREDTHS * (size * riseOf(station) - sumOfRises), size * treeWeight);
        }

        long treeWeightOf(int station) {
            solve(station, NONE);
            return treeWeight;
        }

        long residualOf(int observation) {
            long misfit = misfitOf(observation);
            return roundedDown(HUNDREDTHS * misfit, treeWeight);
        }

        int checkOf(int observation) {
            return checkAgainst(observation, treeWeightOf(net.from[observation]));
        }

        long scoreOf(int observation) {
            long misfit = misfitOf(observation);
            long number = roundedDown(HUNDREDTHS * Math.abs(misfit), treeWeight);
            int check = checkAgainst(observation, treeWeight);
            if (check == 0) {
                return 0L;
            }
            return roundedDown(number * number * net.weight[observation], check);
        }

        int worstObservation() {
            int worst = NONE;
            long greatest = 0L;
            for (int o = 0; o < net.observations; o++) {
                long score = net.isWithdrawn[o] ? 0L : scoreOf(o);
                if (score > greatest) {
                    worst = o;
                    greatest = score;
                }
            }
            return worst;
        }

        /** The residual of an observation, times the sum of the weights of all trees. */
        private long misfitOf(int observation) {
            int begin = net.from[observation];
            solve(begin, NONE);
            return riseOf(net.to[observation]) - riseOf(begin) - net.difference[observation] * treeWeight;
        }

        /** The trees that do not have the observation are those of the part without it. */
        private int checkAgainst(int observation, long ofAllTrees) {
            solve(net.from[observation], observation);
            return (int) roundedDown(THOUSANDTHS * treeWeight, ofAllTrees);
        }

        private long riseOf(int station) {
            int row = rowOf[station];
            return row == NONE ? 0L : cells[row][RIGHT_SIDE];
        }

        /** Solves the part of a station, as if one observation of it (or NONE) were not there. */
        private void solve(int station, int without) {
            datum = net.datumOf(station);
            numberUnknowns();
            clearCells();
            for (int o = 0; o < net.observations; o++) {
                if (o != without && net.isInPartOf(o, datum)) {
                    addToCells(o);
                }
            }
            eliminate();
        }

        private void numberUnknowns() {
            unknowns = 0;
            for (int s = 0; s < net.stations; s++) {
                boolean isUnknown = s != datum && net.areInOnePart(s, datum);
                rowOf[s] = isUnknown ? unknowns : NONE;
                if (isUnknown) {
                    unknowns++;
                }
            }
        }

        private void clearCells() {
            for (int r = 0; r < MOST_STATIONS - 1; r++) {
                for (int c = 0; c < MOST_STATIONS; c++) {
                    cells[r][c] = 0L;
                }
            }
        }

        private void addToCells(int observation) {
            int begin = rowOf[net.from[observation]];
            int end = rowOf[net.to[observation]];
            long weight = net.weight[observation];
            long pull = weight * net.difference[observation];
            addToRow(end, begin, weight, pull);
            addToRow(begin, end, weight, -pull);
        }

        private void addToRow(int row, int otherRow, long weight, long pull) {
            if (row == NONE) {
                return;
            }
            cells[row][row] += weight;
            cells[row][RIGHT_SIDE] += pull;
            if (otherRow != NONE) {
                cells[row][otherRow] -= weight;
            }
        }

        /**
         * Each step makes of every cell a minor of the equations, so that its division by the pivot
         * before leaves no remainder. A pivot of 0 can only come when the part falls into two: it has no tree then.
         */
        private void eliminate() {
            long pivotBefore = 1L;
            for (int p = 0; p < unknowns; p++) {
                long pivot = cells[p][p];
                if (pivot == 0L) {
                    treeWeight = 0L;
                    return;
                }
                for (int r = 0; r < unknowns; r++) {
                    if (r != p) {
                        clearColumn(r, p, pivotBefore);
                    }
                }
                pivotBefore = pivot;
            }
            treeWeight = pivotBefore;
        }

        private void clearColumn(int row, int pivotRow, long pivotBefore) {
            long pivot = cells[pivotRow][pivotRow];
            long factor = cells[row][pivotRow];
            for (int c = 0; c < MOST_STATIONS; c++) {
                long minor = pivot * cells[row][c] - factor * cells[pivotRow][c];
                cells[row][c] = pivotBefore == 0L ? 0L : minor / pivotBefore;
            }
        }
    }

    /** Goes through all trees of a part, and sums what is asked of them. */
    private static final class TreeWalk {
        private static final int MOST_BRANCHES = MOST_STATIONS - 1;

        private final Net net;
        /** By branches taken and station: which piece of the growing tree the station is in. */
        private final int[][] piece;
        /** By branches taken and station: how high it is in its piece. */
        private final int[][] rise;
        private int branches;
        private int datum;
        private int askedStation;
        private int askedObservation;

        private long weightOfAll;
        private long weightOfThoseWithAsked;
        private long weightedRises;

        TreeWalk(Net net) {
            this.net = net;
            piece = new int[MOST_STATIONS][MOST_STATIONS];
            rise = new int[MOST_STATIONS][MOST_STATIONS];
        }

        long heightOf(int station) {
            walk(station, NONE);
            long overAll = weightedRises + net.toldHeight[datum] * weightOfAll;
            return roundedDown(HUNDREDTHS * overAll, weightOfAll);
        }

        int checkOf(int observation) {
            walk(net.from[observation], observation);
            return (int) roundedDown(THOUSANDTHS * (weightOfAll - weightOfThoseWithAsked), weightOfAll);
        }

        private void walk(int station, int observation) {
            askedStation = station;
            askedObservation = observation;
            datum = net.datumOf(station);
            branches = net.countStationsWith(station) - 1;
            weightOfAll = 0L;
            weightOfThoseWithAsked = 0L;
            weightedRises = 0L;
            for (int s = 0; s < net.stations; s++) {
                piece[0][s] = s;
                rise[0][s] = 0;
            }
            grow(this, 0, 0, 1L, false);
        }

        /** Takes observations in rising order alone, so that every tree comes once. */
        private static void grow(TreeWalk walk, int taken, int next, long weight, boolean hasAsked) {
            if (taken >= walk.branches || taken >= MOST_BRANCHES) {
                walk.countTree(taken, weight, hasAsked);
                return;
            }
            for (int o = next; o < walk.net.observations; o++) {
                if (walk.joinsPieces(taken, o)) {
                    walk.joinPieces(taken, o);
                    boolean hasItNow = hasAsked || o == walk.askedObservation;
                    grow(walk, taken + 1, o + 1, weight * walk.net.weight[o], hasItNow);
                }
            }
        }

        private boolean joinsPieces(int taken, int observation) {
            return net.isInPartOf(observation, datum)
                    && piece[taken][net.from[observation]] != piece[taken][net.to[observation]];
        }

        /** Lifts the piece to which the observation goes onto the one from which it comes. */
        private void joinPieces(int taken, int observation) {
            int begin = net.from[observation];
            int end = net.to[observation];
            int lift = rise[taken][begin] + net.difference[observation] - rise[taken][end];
            for (int s = 0; s < net.stations; s++) {
                boolean isLifted = piece[taken][s] == piece[taken][end];
                piece[taken + 1][s] = isLifted ? piece[taken][begin] : piece[taken][s];
                rise[taken + 1][s] = isLifted ? rise[taken][s] + lift : rise[taken][s];
            }
        }

        private void countTree(int taken, long weight, boolean hasAsked) {
            weightOfAll += weight;
            weightedRises += weight * (rise[taken][askedStation] - rise[taken][datum]);
            if (hasAsked) {
                weightOfThoseWithAsked += weight;
            }
        }
    }
}
