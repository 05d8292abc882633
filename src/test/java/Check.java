import java.util.function.LongSupplier;

/** Counts wrong answers, and a few things that all tests need. */
final class Check {
    private static int asked = 0;
    private static int wrong = 0;

    private Check() {
    }

    static void due(String what, long got, long due) {
        asked++;
        if (got != due) {
            wrong++;
            System.out.println(what + ": answered " + got + ", due is " + due);
        }
    }

    static void holds(String what, boolean so) {
        asked++;
        if (!so) {
            wrong++;
            System.out.println(what);
        }
    }

    /** A call that is refused: its answer, one more of that STATUS, and nothing else changed. */
    static void refused(String what, PledgeWindow x, int sort, long due, LongSupplier call) {
        long digest = x.digest();
        int[] status = {x.status(0), x.status(1), x.status(2)};
        due(what, call.getAsLong(), due);
        due(what + ", the digest behind it", x.digest(), digest);
        for (int i = 0; i < 3; i++) {
            due(what + ", then status(" + i + ")", x.status(i), status[i] + (i == sort ? 1 : 0));
        }
    }

    static void bad(String what, PledgeWindow x, LongSupplier call) {
        refused(what, x, 0, -2, call);
    }

    static void no(String what, PledgeWindow x, LongSupplier call) {
        refused(what, x, 1, -3, call);
    }

    static void full(String what, PledgeWindow x, LongSupplier call) {
        refused(what, x, 2, -4, call);
    }

    /** A call that only asks: neither the digest nor a STATUS is changed by it. */
    static void asks(String what, PledgeWindow x, long due, LongSupplier call) {
        refused(what, x, -1, due, call);
    }

    static void type(PledgeWindow x, String text) {
        x.clear();
        for (int i = 0; i < text.length(); i++) {
            due("type(" + (int) text.charAt(i) + ")", x.type(text.charAt(i)), i + 1);
        }
    }

    static long digest(long... values) {
        long h = 1637;
        for (long v : values) {
            h = 31 * h + v;
        }
        return h;
    }

    /** Ends the test: with exit code 1 if an answer was wrong, or none was asked for. */
    static void end() {
        System.out.println(asked + " answers, " + wrong + " wrong");
        if (wrong != 0 || asked == 0) {
            System.exit(1);
        }
    }
}
