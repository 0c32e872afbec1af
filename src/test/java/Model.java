import java.math.BigInteger;
import java.util.ArrayList;
import java.util.HashMap;
import java.util.List;
import java.util.Map;

/**
 * The document's words once more, in the plainest way: every set of observations is looked at,
 * and kept if it is a tree; exact numbers are BigInteger quotients. Written apart from the class.
 */
final class Model {
    private record Observed(int from, int to, int difference, int weight) {
    }

    private static final BigInteger HUNDRED = BigInteger.valueOf(100);
    private static final BigInteger THOUSAND = BigInteger.valueOf(1000);

    private final List<Integer> told = new ArrayList<>();
    private final List<Observed> observed = new ArrayList<>();
    private final List<Boolean> withdrawn = new ArrayList<>();
    private final List<Integer> path = new ArrayList<>();
    private int sum;

    /** What has been found for a station since the last change. */
    private final Map<Integer, List<Integer>> treesKnown = new HashMap<>();
    private final Map<Integer, BigInteger> weightsKnown = new HashMap<>();
    private final Map<Integer, BigInteger> heightsKnown = new HashMap<>();

    private void forget() {
        treesKnown.clear();
        weightsKnown.clear();
        heightsKnown.clear();
    }

    int station() {
        need(told.size() < 6, new IllegalStateException());
        forget();
        told.add(null);
        return told.size() - 1;
    }

    boolean datum(int station, int height, boolean isTold) {
        needStation(station);
        need(!isTold || Math.abs((long) height) <= 9999, new IllegalArgumentException());
        forget();
        return told.set(station, isTold ? height : null) != null;
    }

    int observe(int from, int to, int difference, int weight) {
        needStation(from);
        needStation(to);
        need(from != to, new IllegalArgumentException());
        need(Math.abs((long) difference) <= 9999, new IllegalArgumentException());
        need(weight >= 1 && weight <= 5, new IllegalArgumentException());
        need(observed.size() < 14, new IllegalStateException());
        forget();
        observed.add(new Observed(from, to, difference, weight));
        withdrawn.add(false);
        return observed.size() - 1;
    }

    boolean withdraw(int observation, boolean is) {
        needObservation(observation);
        forget();
        return withdrawn.set(observation, is);
    }

    int clean(int bound) {
        need(bound >= 0 && bound <= 1000000000, new IllegalArgumentException());
        int count = 0;
        while (worst() >= 0 && score(worst()) > bound) {
            withdrawn.set(worst(), true);
            forget();
            count++;
        }
        return count;
    }

    int go(int station) {
        needStation(station);
        need(path.size() < 10, new IllegalStateException());
        if (!path.isEmpty()) {
            int step = joining(path.get(path.size() - 1), station);
            need(step >= 0, new IllegalStateException());
            Observed by = observed.get(step);
            sum += by.to() == station ? by.difference() : -by.difference();
        }
        path.add(station);
        return path.size();
    }

    int end() {
        int had = path.size();
        path.clear();
        sum = 0;
        return had;
    }

    int sum() {
        return sum;
    }

    boolean isClosed() {
        return !path.isEmpty() && path.get(0).equals(path.get(path.size() - 1)) && sum == 0;
    }

    long height(int station) {
        needStation(station);
        return floor(exactHeight(station).multiply(HUNDRED), weightOf(station));
    }

    long free(int station) {
        needStation(station);
        BigInteger sumOfHeights = BigInteger.ZERO;
        int size = 0;
        for (int s = 0; s < told.size(); s++) {
            if (partOf(station)[s]) {
                sumOfHeights = sumOfHeights.add(exactHeight(s));
                size++;
            }
        }
        BigInteger n = BigInteger.valueOf(size);
        BigInteger dividend = exactHeight(station).multiply(n).subtract(sumOfHeights);
        return floor(dividend.multiply(HUNDRED), weightOf(station).multiply(n));
    }

    long residual(int observation) {
        needInNet(observation);
        return floor(exactResidual(observation).multiply(HUNDRED), weightOf(observed.get(observation).from()));
    }

    int check(int observation) {
        needInNet(observation);
        BigInteger all = BigInteger.ZERO;
        BigInteger without = BigInteger.ZERO;
        for (int tree : treesOf(observed.get(observation).from())) {
            all = all.add(weightOfTree(tree));
            if ((tree >> observation & 1) == 0) {
                without = without.add(weightOfTree(tree));
            }
        }
        return (int) floor(without.multiply(THOUSAND), all);
    }

    long score(int observation) {
        needInNet(observation);
        BigInteger all = weightOf(observed.get(observation).from());
        BigInteger number = exactResidual(observation).abs().multiply(HUNDRED).divide(all);
        int check = check(observation);
        BigInteger weight = BigInteger.valueOf(observed.get(observation).weight());
        return check == 0 ? 0 : floor(number.multiply(number).multiply(weight), BigInteger.valueOf(check));
    }

    int worst() {
        int worst = -1;
        long least = 1;
        for (int o = observed.size() - 1; o >= 0; o--) {
            long score = withdrawn.get(o) ? 0 : score(o);
            if (score >= least) {
                worst = o;
                least = score;
            }
        }
        return worst;
    }

    long trees(int station) {
        needStation(station);
        return weightOf(station).longValueExact();
    }

    int parts() {
        int count = 0;
        for (int s = 0; s < told.size(); s++) {
            boolean isFirst = true;
            for (int lower = 0; lower < s; lower++) {
                isFirst &= !partOf(s)[lower];
            }
            count += isFirst ? 1 : 0;
        }
        return count;
    }

    /** Whether the adjusted heights fulfil the conditions of a least sum: all weighted residuals at a station cancel. */
    boolean isLeast(int station) {
        BigInteger pull = BigInteger.ZERO;
        for (int o = 0; o < observed.size(); o++) {
            if (!withdrawn.get(o)) {
                BigInteger part = exactResidual(o).multiply(BigInteger.valueOf(observed.get(o).weight()));
                pull = observed.get(o).to() == station ? pull.add(part) : pull;
                pull = observed.get(o).from() == station ? pull.subtract(part) : pull;
            }
        }
        return pull.signum() == 0;
    }

    int stations() {
        return told.size();
    }

    private void needStation(int station) {
        need(station >= 0 && station < told.size(), new IndexOutOfBoundsException());
    }

    private void needObservation(int observation) {
        need(observation >= 0 && observation < observed.size(), new IndexOutOfBoundsException());
    }

    private void needInNet(int observation) {
        needObservation(observation);
        need(!withdrawn.get(observation), new IllegalStateException());
    }

    private static void need(boolean holds, RuntimeException otherwise) {
        if (!holds) {
            throw otherwise;
        }
    }

    private static long floor(BigInteger dividend, BigInteger divisor) {
        BigInteger[] parts = dividend.divideAndRemainder(divisor);
        return parts[0].longValueExact() - (parts[1].signum() < 0 ? 1 : 0);
    }

    private int joining(int one, int other) {
        for (int o = 0; o < observed.size(); o++) {
            Observed by = observed.get(o);
            boolean joins = by.from() == one && by.to() == other || by.from() == other && by.to() == one;
            if (joins && !withdrawn.get(o)) {
                return o;
            }
        }
        return -1;
    }

    private boolean[] partOf(int station) {
        int all = 0;
        for (int o = 0; o < observed.size(); o++) {
            all |= withdrawn.get(o) ? 0 : 1 << o;
        }
        Integer[] reached = heightsBy(all, station, 0);
        boolean[] part = new boolean[told.size()];
        for (int s = 0; s < part.length; s++) {
            part[s] = reached[s] != null;
        }
        return part;
    }

    /** Heights of what a set of observations reaches from a station, each by the first way that is found. */
    private Integer[] heightsBy(int set, int station, int height) {
        Integer[] heights = new Integer[told.size()];
        heights[station] = height;
        boolean grows = true;
        while (grows) {
            grows = false;
            for (int o = 0; o < observed.size(); o++) {
                Observed by = observed.get(o);
                if ((set >> o & 1) == 1 && (heights[by.from()] == null) != (heights[by.to()] == null)) {
                    if (heights[by.to()] == null) {
                        heights[by.to()] = heights[by.from()] + by.difference();
                    } else {
                        heights[by.from()] = heights[by.to()] - by.difference();
                    }
                    grows = true;
                }
            }
        }
        return heights;
    }

    private List<Integer> treesOf(int station) {
        return treesKnown.computeIfAbsent(station, this::findTrees);
    }

    private List<Integer> findTrees(int station) {
        boolean[] part = partOf(station);
        int size = 0;
        for (boolean isIn : part) {
            size += isIn ? 1 : 0;
        }
        List<Integer> trees = new ArrayList<>();
        for (int set = 0; set < 1 << observed.size(); set++) {
            if (Integer.bitCount(set) == size - 1 && isTree(set, station, size)) {
                trees.add(set);
            }
        }
        return trees;
    }

    private boolean isTree(int set, int station, int size) {
        for (int o = 0; o < observed.size(); o++) {
            if ((set >> o & 1) == 1 && withdrawn.get(o)) {
                return false;
            }
        }
        int reached = 0;
        for (Integer height : heightsBy(set, station, 0)) {
            reached += height == null ? 0 : 1;
        }
        return reached == size;
    }

    private BigInteger weightOfTree(int tree) {
        long weight = 1;
        for (int o = 0; o < observed.size(); o++) {
            weight *= (tree >> o & 1) == 1 ? observed.get(o).weight() : 1;
        }
        return BigInteger.valueOf(weight);
    }

    private BigInteger weightOf(int station) {
        return weightsKnown.computeIfAbsent(station, this::findWeight);
    }

    private BigInteger findWeight(int station) {
        BigInteger all = BigInteger.ZERO;
        for (int tree : treesOf(station)) {
            all = all.add(weightOfTree(tree));
        }
        return all;
    }

    private int datumOf(int station) {
        boolean[] part = partOf(station);
        for (int s = 0; s < part.length; s++) {
            if (part[s] && told.get(s) != null) {
                return s;
            }
        }
        for (int s = 0; s < part.length; s++) {
            if (part[s]) {
                return s;
            }
        }
        throw new AssertionError("a station is in its own part");
    }

    /** The adjusted height, times the weight of all trees. */
    private BigInteger exactHeight(int station) {
        return heightsKnown.computeIfAbsent(station, this::findHeight);
    }

    private BigInteger findHeight(int station) {
        int datum = datumOf(station);
        int height = told.get(datum) == null ? 0 : told.get(datum);
        BigInteger all = BigInteger.ZERO;
        for (int tree : treesOf(station)) {
            Integer byTree = heightsBy(tree, datum, height)[station];
            all = all.add(weightOfTree(tree).multiply(BigInteger.valueOf(byTree)));
        }
        return all;
    }

    private BigInteger exactResidual(int observation) {
        Observed by = observed.get(observation);
        BigInteger observedTimesAll = weightOf(by.from()).multiply(BigInteger.valueOf(by.difference()));
        return exactHeight(by.to()).subtract(exactHeight(by.from())).subtract(observedTimesAll);
    }
}
