import java.util.function.Supplier;

/**
 * Each call that throws, with the exception that is named first in the throws clause where several apply;
 * and nothing is changed by it.
 */
public final class RefusalsTest {
    public static void main(String[] args) {
        withoutStations();
        withoutObservations();
        ring();
        fullNet();
        fullPath();
        fullButWithdrawn();
        Expect.finish("RefusalsTest");
    }

    private static void withoutStations() {
        Expect.by("promise 1: Begins without stations, with an empty path");
        Supplier<TheodoliteRow> made = TheodoliteRow::new;
        for (int n : new int[] {-1, 0, 1}) {
            dueNoStation(made, n);
            dueNoObservation(made, n);
        }
        Refusal.due(made, "observe(0, 0, 0, 1)", Expect.INDEX, row -> row.observe(0, 0, 0, 1));
        Refusal.due(made, "clean(-1)", Expect.ARGUMENT, row -> row.clean(-1));
        Refusal.due(made, "clean(1000000001)", Expect.ARGUMENT, row -> row.clean(1000000001));
    }

    private static void dueNoStation(Supplier<TheodoliteRow> made, int s) {
        Refusal.due(made, "datum(" + s + ", 0, true)", Expect.INDEX, row -> row.datum(s, 0, true));
        Refusal.due(made, "datum(" + s + ", 0, false)", Expect.INDEX, row -> row.datum(s, 0, false));
        Refusal.due(made, "datum(" + s + ", 10000, true), both apply", Expect.INDEX, row -> row.datum(s, 10000, true));
        Refusal.due(made, "datum(" + s + ", -10000, true), both apply", Expect.INDEX, row -> row.datum(s, -10000, true));
        Refusal.due(made, "observe(" + s + ", 0, 0, 1)", Expect.INDEX, row -> row.observe(s, 0, 0, 1));
        Refusal.due(made, "observe(0, " + s + ", 0, 1)", Expect.INDEX, row -> row.observe(0, s, 0, 1));
        Refusal.due(made, "observe(" + s + ", alike, 0, 1), both apply", Expect.INDEX, row -> row.observe(s, s, 0, 1));
        Refusal.due(made, "observe(0, " + s + ", 10000, 1), both apply", Expect.INDEX, row -> row.observe(0, s, 10000, 1));
        Refusal.due(made, "observe(" + s + ", 0, 0, 0), both apply", Expect.INDEX, row -> row.observe(s, 0, 0, 0));
        Refusal.due(made, "observe(0, " + s + ", 0, 6), both apply", Expect.INDEX, row -> row.observe(0, s, 0, 6));
        Refusal.due(made, "go(" + s + ")", Expect.INDEX, row -> row.go(s));
        Refusal.due(made, "height(" + s + ")", Expect.INDEX, row -> row.height(s));
        Refusal.due(made, "heightAnew(" + s + ")", Expect.INDEX, row -> row.heightAnew(s));
        Refusal.due(made, "free(" + s + ")", Expect.INDEX, row -> row.free(s));
        Refusal.due(made, "trees(" + s + ")", Expect.INDEX, row -> row.trees(s));
    }

    private static void dueNoObservation(Supplier<TheodoliteRow> made, int o) {
        Refusal.due(made, "withdraw(" + o + ", true)", Expect.INDEX, row -> row.withdraw(o, true));
        Refusal.due(made, "withdraw(" + o + ", false)", Expect.INDEX, row -> row.withdraw(o, false));
        Refusal.due(made, "residual(" + o + ")", Expect.INDEX, row -> row.residual(o));
        Refusal.due(made, "check(" + o + ")", Expect.INDEX, row -> row.check(o));
        Refusal.due(made, "checkAnew(" + o + ")", Expect.INDEX, row -> row.checkAnew(o));
        Refusal.due(made, "score(" + o + ")", Expect.INDEX, row -> row.score(o));
    }

    private static void dueWithdrawn(Supplier<TheodoliteRow> made, int o) {
        Expect.by("promises 14 to 17: IllegalStateException if it is withdrawn");
        Refusal.due(made, "residual(" + o + ")", Expect.STATE, row -> row.residual(o));
        Refusal.due(made, "check(" + o + ")", Expect.STATE, row -> row.check(o));
        Refusal.due(made, "checkAnew(" + o + ")", Expect.STATE, row -> row.checkAnew(o));
        Refusal.due(made, "score(" + o + ")", Expect.STATE, row -> row.score(o));
    }

    private static void withoutObservations() {
        Expect.by("promises 3 to 7, without observations");
        Supplier<TheodoliteRow> made = () -> {
            TheodoliteRow row = Nets.withStations(2);
            row.datum(1, 42, true);
            row.go(1);
            return row;
        };
        dueNoStation(made, -1);
        dueNoStation(made, 2);
        dueNoObservation(made, -1);
        dueNoObservation(made, 0);
        Refusal.due(made, "datum(1, 10000, true), of a told one", Expect.ARGUMENT, row -> row.datum(1, 10000, true));
        Refusal.due(made, "datum(0, -10000, true), of an untold one", Expect.ARGUMENT, row -> row.datum(0, -10000, true));
        Refusal.due(made, "go(0), not joined", Expect.STATE, row -> row.go(0));
        Refusal.due(made, "go(1), the same", Expect.STATE, row -> row.go(1));
    }

    private static void ring() {
        Expect.by("Exceptions: the one that is named first in the throws clause; changes nothing");
        Supplier<TheodoliteRow> made = () -> {
            TheodoliteRow row = Nets.ring();
            row.datum(0, 7, true);
            row.observe(0, 1, 400, 5);
            row.withdraw(1, true);
            row.go(0);
            row.go(1);
            return row;
        };
        dueNoStation(made, -1);
        dueNoStation(made, 3);
        dueNoObservation(made, -1);
        dueNoObservation(made, 4);
        Refusal.due(made, "datum(0, 10000, true)", Expect.ARGUMENT, row -> row.datum(0, 10000, true));
        Refusal.due(made, "datum(1, -10000, true)", Expect.ARGUMENT, row -> row.datum(1, -10000, true));
        dueWrongObservation(made);
        Refusal.due(made, "clean(-1)", Expect.ARGUMENT, row -> row.clean(-1));
        Refusal.due(made, "clean(1000000001)", Expect.ARGUMENT, row -> row.clean(1000000001));
        Refusal.due(made, "go(1), the same", Expect.STATE, row -> row.go(1));
        Refusal.due(made, "go(2), joined by one that is withdrawn", Expect.STATE, row -> row.go(2));
        dueWithdrawn(made, 1);
    }

    private static void dueWrongObservation(Supplier<TheodoliteRow> made) {
        Refusal.due(made, "observe(1, 1, 0, 1)", Expect.ARGUMENT, row -> row.observe(1, 1, 0, 1));
        Refusal.due(made, "observe(0, 1, 10000, 1)", Expect.ARGUMENT, row -> row.observe(0, 1, 10000, 1));
        Refusal.due(made, "observe(0, 1, -10000, 1)", Expect.ARGUMENT, row -> row.observe(0, 1, -10000, 1));
        Refusal.due(made, "observe(0, 1, 0, 0)", Expect.ARGUMENT, row -> row.observe(0, 1, 0, 0));
        Refusal.due(made, "observe(0, 1, 0, 6)", Expect.ARGUMENT, row -> row.observe(0, 1, 0, 6));
    }

    private static void fullNet() {
        Expect.by("promises 2 and 4: IllegalStateException if there are 6, if there are 14");
        Supplier<TheodoliteRow> made = () -> {
            TheodoliteRow row = Nets.full();
            row.datum(3, -50, true);
            row.go(5);
            return row;
        };
        Refusal.due(made, "station()", Expect.STATE, TheodoliteRow::station);
        Refusal.due(made, "observe(0, 1, 0, 1)", Expect.STATE, row -> row.observe(0, 1, 0, 1));
        Refusal.due(made, "observe(5, 4, -9999, 5)", Expect.STATE, row -> row.observe(5, 4, -9999, 5));
        Expect.by("promise 4, of a full net: the exceptions that are named before");
        dueWrongObservation(made);
        dueNoStation(made, 6);
        dueNoStation(made, -1);
        dueNoObservation(made, 14);
        dueNoObservation(made, -1);
    }

    private static void fullPath() {
        Expect.by("promise 7: IllegalStateException if it has 10");
        Supplier<TheodoliteRow> made = () -> {
            TheodoliteRow row = Nets.ring();
            for (int s = 0; s < 10; s++) {
                row.go(s % 3);
            }
            return row;
        };
        Refusal.due(made, "go(1), joined", Expect.STATE, row -> row.go(1));
        Refusal.due(made, "go(2), joined", Expect.STATE, row -> row.go(2));
        Refusal.due(made, "go(0), the same", Expect.STATE, row -> row.go(0));
        Expect.by("promise 7, of a full path: IndexOutOfBoundsException is named first");
        Refusal.due(made, "go(3)", Expect.INDEX, row -> row.go(3));
        Refusal.due(made, "go(-1)", Expect.INDEX, row -> row.go(-1));
    }

    private static void fullButWithdrawn() {
        Expect.by("promise 4: those that are withdrawn are observations still");
        Supplier<TheodoliteRow> made = () -> {
            TheodoliteRow row = Nets.full();
            for (int o = 0; o < 14; o++) {
                row.withdraw(o, true);
            }
            row.go(0);
            return row;
        };
        Refusal.due(made, "observe(0, 1, 0, 1)", Expect.STATE, row -> row.observe(0, 1, 0, 1));
        for (int s = 0; s < 6; s++) {
            int station = s;
            Refusal.due(made, "go(" + s + "), all withdrawn", Expect.STATE, row -> row.go(station));
        }
        dueWithdrawn(made, 0);
        dueWithdrawn(made, 13);
    }
}
