/**
 * All promises: long rows of calls, made up by a fixed rule, on the class and on the model beside it.
 * Each answer and each exception must be the same, up to the 512th call of an object.
 */
public final class ModelTest {
    private static final int RUNS = 80;
    private static final int CALLS = 512;
    private static final int[] ODD_NUMBERS = {-1, 6, 14, 100, Integer.MIN_VALUE, Integer.MAX_VALUE};
    private static final int[] EDGES = {9999, -9999, 10000, -10000, 0, 1, -1, Integer.MIN_VALUE, Integer.MAX_VALUE};
    private static final int[] BOUNDS = {0, 1, 29, 1000, 1000000, 1000000000, 1000000001, -1, Integer.MIN_VALUE};

    private final int run;
    private final TheodoliteRow row = new TheodoliteRow();
    private final Model model = new Model();
    private final StringBuilder calls = new StringBuilder();
    private int called;
    private long seed;

    private ModelTest(int run) {
        this.run = run;
        seed = 7919L * run + 17;
    }

    public static void main(String[] args) {
        for (int run = 0; run < RUNS; run++) {
            new ModelTest(run).goThrough();
        }
        Expect.finish("ModelTest");
    }

    private void goThrough() {
        boolean isFull = run % 4 == 3;
        int begin = isFull ? 6 : number(7);
        for (int s = 0; s < begin; s++) {
            compare("station()", row::station, model::station);
        }
        if (begin >= 2) {
            for (int o = isFull ? 14 : number(12); o > 0; o--) {
                observe(begin);
            }
        }
        while (called < CALLS) {
            any();
        }
        for (int s = 0; s < model.stations(); s++) {
            int station = s;
            Expect.due("run " + run + ": the model's heights are of a least sum", true, () -> model.isLeast(station));
        }
    }

    private int number(int bound) {
        seed = seed * 6364136223846793005L + 1442695040888963407L;
        return (int) ((seed >>> 33) % bound);
    }

    private int station() {
        return number(25) == 0 ? ODD_NUMBERS[number(ODD_NUMBERS.length)] : number(Math.max(1, model.stations()));
    }

    private int observation() {
        return number(25) == 0 ? ODD_NUMBERS[number(ODD_NUMBERS.length)] : number(14);
    }

    private int millimetres() {
        if (number(8) == 0) {
            return EDGES[number(EDGES.length)];
        }
        return number(2) == 0 ? number(21) - 10 : number(19999) - 9999;
    }

    private void compare(String call, Expect.Call got, Expect.Call want) {
        if (called == CALLS) {
            return;
        }
        called++;
        calls.append(' ').append(call);
        Expect.due("run " + run + ":" + calls, Expect.answerOf(want), got);
    }

    private void any() {
        if (number(3) == 0) {
            change();
        } else {
            ask();
        }
    }

    private void change() {
        switch (number(12)) {
            case 0 -> perhapsStation();
            case 1, 2 -> datum();
            case 3, 4 -> observe(Math.max(2, model.stations()));
            case 5, 6 -> withdraw();
            case 7 -> clean();
            case 8 -> compare("end()", row::end, model::end);
            default -> go();
        }
    }

    private void perhapsStation() {
        if (number(6) == 0) {
            compare("station()", row::station, model::station);
        }
    }

    private void datum() {
        int station = station();
        int height = millimetres();
        boolean isTold = number(2) == 0;
        compare("datum(" + station + ", " + height + ", " + isTold + ")",
                () -> row.datum(station, height, isTold), () -> model.datum(station, height, isTold));
    }

    private void observe(int stations) {
        int from = number(30) == 0 ? station() : number(stations);
        int to = number(12) == 0 ? station() : (from + 1 + number(stations - 1)) % stations;
        int difference = millimetres();
        int weight = number(15) == 0 ? number(9) - 1 : 1 + number(5);
        compare("observe(" + from + ", " + to + ", " + difference + ", " + weight + ")",
                () -> row.observe(from, to, difference, weight), () -> model.observe(from, to, difference, weight));
    }

    private void withdraw() {
        int observation = observation();
        boolean is = number(5) == 0;
        compare("withdraw(" + observation + ", " + is + ")",
                () -> row.withdraw(observation, is), () -> model.withdraw(observation, is));
    }

    private void clean() {
        int bound = BOUNDS[number(BOUNDS.length)];
        compare("clean(" + bound + ")", () -> row.clean(bound), () -> model.clean(bound));
    }

    private void go() {
        for (int steps = number(6); steps >= 0; steps--) {
            int station = station();
            compare("go(" + station + ")", () -> row.go(station), () -> model.go(station));
            compare("sum()", row::sum, model::sum);
            compare("isClosed()", row::isClosed, model::isClosed);
        }
    }

    private void ask() {
        int station = station();
        int observation = observation();
        switch (number(10)) {
            case 0 -> compare("height(" + station + ")", () -> row.height(station), () -> model.height(station));
            case 1 -> compare("heightAnew(" + station + ")", () -> row.heightAnew(station), () -> model.height(station));
            case 2 -> compare("free(" + station + ")", () -> row.free(station), () -> model.free(station));
            case 3 -> compare("trees(" + station + ")", () -> row.trees(station), () -> model.trees(station));
            case 4 -> compare("residual(" + observation + ")",
                    () -> row.residual(observation), () -> model.residual(observation));
            case 5 -> compare("check(" + observation + ")", () -> row.check(observation), () -> model.check(observation));
            case 6 -> compare("checkAnew(" + observation + ")",
                    () -> row.checkAnew(observation), () -> model.check(observation));
            case 7 -> compare("score(" + observation + ")", () -> row.score(observation), () -> model.score(observation));
            case 8 -> compare("worst()", row::worst, model::worst);
            default -> compare("parts()", row::parts, model::parts);
        }
    }
}
