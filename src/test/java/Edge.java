import java.util.List;
import java.util.function.Supplier;
import java.util.function.ToLongFunction;

/** Calls at and beyond a boundary, each on an object of its own, beside a twin without the call. */
final class Edge {
    private Edge() {
    }

    /** Refused: the answer told, one more of that STATUS, and nothing else changed. */
    static void refused(String what, Supplier<PledgeWindow> made, int sort, long due,
            ToLongFunction<PledgeWindow> call) {
        PledgeWindow asked = made.get();
        List<Long> twin = Observed.of(made.get());
        Check.due(what, call.applyAsLong(asked), due);
        List<Long> behind = Observed.of(asked);
        if (sort >= 0) {
            twin.set(sort, twin.get(sort) + 1);
        }
        Check.holds(what + ": changed what it should not: " + behind + " for " + twin,
                behind.equals(twin));
    }

    static void bad(String what, Supplier<PledgeWindow> made, ToLongFunction<PledgeWindow> call) {
        refused(what, made, 0, -2, call);
    }

    static void no(String what, Supplier<PledgeWindow> made, ToLongFunction<PledgeWindow> call) {
        refused(what, made, 1, -3, call);
    }

    static void full(String what, Supplier<PledgeWindow> made, ToLongFunction<PledgeWindow> call) {
        refused(what, made, 2, -4, call);
    }

    /** Answered, and nothing is changed by it, STATUS neither. */
    static void asks(String what, Supplier<PledgeWindow> made, long due,
            ToLongFunction<PledgeWindow> call) {
        refused(what, made, -1, due, call);
    }
}
