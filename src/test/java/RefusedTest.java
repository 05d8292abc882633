import java.util.function.Supplier;

/**
 * Every call that is refused, in a bare town, in one with some of each, and in a full one: what
 * it answers, which STATUS counts it, and that nothing else is changed: neither what is there,
 * nor what may be undone, nor an IMAGE, nor THE TEXT. The same of every call that only asks.
 */
public final class RefusedTest {
    private RefusedTest() {
    }

    private static final String[] NAMES = {"bare", "some", "brim"};

    public static void main(String[] args) {
        for (String town : NAMES) {
            for (String name : Calls.WITH_NUMBERS) {
                eachNumberBeyond(town, name);
                allNumbersBeyond(town, name);
            }
            bidsOfAlike(town);
            for (String name : Calls.ASKING) {
                askingChangesNothing(town, name);
            }
        }
        noIsTold();
        badIsAheadOfNo();
        fullIsTold();
        badIsAheadOfFull();
        notRefused();
        Check.end();
    }

    private static PledgeWindow make(String town) {
        switch (town) {
            case "bare":
                return Towns.bare();
            case "some":
                return Towns.some();
            default:
                return Towns.brim();
        }
    }

    private static int[] ranges(String town, String name) {
        PledgeWindow x = make(town);
        return Calls.ranges(name, x.count(0), x.count(1), x.count(2));
    }

    /** The least or the most of each number; where there is none, 0. BIDS need two BUYERS. */
    private static int[] within(String name, int[] ranges, boolean most) {
        int[] a = new int[ranges.length / 2];
        for (int i = 0; i < a.length; i++) {
            boolean none = ranges[2 * i + 1] < ranges[2 * i];
            a[i] = none ? 0 : ranges[2 * i + (most ? 1 : 0)];
        }
        if (name.equals("bids")) {
            a[most ? 1 : 0] = 0;
            a[most ? 0 : 1] = 1;
        }
        return a;
    }

    private static void isBad(String town, String name, int... a) {
        Edge.refused(Calls.told(name, a) + " in " + town, () -> make(town), 0, Calls.badAnswer(name),
                x -> Calls.ask(x, name, a));
    }

    private static void eachNumberBeyond(String town, String name) {
        int[] ranges = ranges(town, name);
        for (int i = 0; i < ranges.length / 2; i++) {
            for (boolean most : new boolean[] {false, true}) {
                int[] a = within(name, ranges, most);
                a[i] = ranges[2 * i] - 1;
                isBad(town, name, a.clone());
                a[i] = Integer.MIN_VALUE;
                isBad(town, name, a.clone());
                if (ranges[2 * i + 1] != Calls.NO_END) {
                    a[i] = ranges[2 * i + 1] + 1;
                    isBad(town, name, a.clone());
                    a[i] = Integer.MAX_VALUE;
                    isBad(town, name, a.clone());
                }
            }
        }
    }

    private static void allNumbersBeyond(String town, String name) {
        int[] ranges = ranges(town, name);
        int[] below = new int[ranges.length / 2];
        for (int i = 0; i < below.length; i++) {
            below[i] = ranges[2 * i] - 1;
        }
        isBad(town, name, below);
    }

    private static void bidsOfAlike(String town) {
        for (int b = 0; b < make(town).count(2); b++) {
            isBad(town, "bids", b, b, 0, 0, -1);
            isBad(town, "bids", b, b, 0, 0, 0);
        }
    }

    /** What each of these answers other tests say. */
    private static void askingChangesNothing(String town, String name) {
        int[] ranges = ranges(town, name);
        for (int i = 0; i < ranges.length / 2; i++) {
            if (ranges[2 * i + 1] < ranges[2 * i] || name.equals("bids") && ranges[1] < 1) {
                return;
            }
        }
        for (boolean most : new boolean[] {false, true}) {
            int[] a = within(name, ranges, most);
            long due = Calls.ask(make(town), name, a);
            Edge.asks(Calls.told(name, a) + " in " + town, () -> make(town), due,
                    x -> Calls.ask(x, name, a));
        }
    }

    private static void noIsTold() {
        Supplier<PledgeWindow> some = Towns::some;
        Edge.no("BUYING one that he HOLDS himself", some, x -> x.buys(1, 1));
        Edge.no("BUYING one that another HOLDS", some, x -> x.buys(1, 2));
        Edge.no("BUYING one that is KEPT", some, x -> x.buys(1, 0));
        Edge.no("BUYING with a PURSE that holds less", some, x -> x.buys(1, 3));
        Edge.no("KEEPING one that is KEPT to him", some, x -> x.keeps(0, 1));
        Edge.no("KEEPING one that is KEPT to another", some, x -> x.keeps(0, 0));
        Edge.no("KEEPING one IN THE WINDOW", some, x -> x.keeps(3, 0));
        Edge.no("an IMAGE that was not kept, beside one that was", some, x -> x.from(0));
        Edge.no("IMAGE 0 of a new object", Towns::bare, x -> x.from(0));
        Edge.no("IMAGE 1 of a new object", Towns::bare, x -> x.from(1));
        Edge.no("UNDO in a new object", Towns::bare, PledgeWindow::undo);
        Edge.no("UNDO behind all that may be", RefusedTest::undoneSome, PledgeWindow::undo);
        Edge.no("an empty PURSE", Towns::brim, x -> x.buys(1, 3));
    }

    private static PledgeWindow undoneSome() {
        PledgeWindow x = Towns.some();
        for (int n = 0; n < 5; n++) {
            x.undo();
        }
        return x;
    }

    /** The call would be told NO for one number, were another not BAD. */
    private static void badIsAheadOfNo() {
        Supplier<PledgeWindow> some = Towns::some;
        Edge.bad("a KEPT one by no BUYER", some, x -> x.buys(2, 0));
        Edge.bad("a KEPT one by BUYER -1", some, x -> x.buys(-1, 0));
        Edge.bad("a KEPT one to no HEARER", some, x -> x.keeps(0, 2));
        Edge.bad("one IN THE WINDOW to no HEARER", some, x -> x.keeps(3, 2));
        Edge.bad("one IN THE WINDOW to HEARER -1", some, x -> x.keeps(3, -1));
    }

    private static void fullIsTold() {
        Supplier<PledgeWindow> brim = Towns::brim;
        Edge.full("an 8th PROMISE, the least", brim, x -> x.promise(0, 1));
        Edge.full("an 8th PROMISE, the most", brim, x -> x.promise(5, 9));
        Edge.full("a 5th HEARER, the least", brim, x -> x.hearer(0, 1));
        Edge.full("a 5th HEARER, the most", brim, x -> x.hearer(5, 9));
        Edge.full("a 4th BUYER, the least", brim, x -> x.buyer(0));
        Edge.full("a 4th BUYER, the most", brim, x -> x.buyer(999));
        Edge.full("a 151st byte, the least", brim, x -> x.type(0));
        Edge.full("a 151st byte, the most", brim, x -> x.type(127));
        Edge.full("a 6th SEEN one, the least", brim, x -> x.seen(0, 0));
        Edge.full("a 6th SEEN one, the most", brim, x -> x.seen(99, 30));
        Edge.full("a 7th NOTE, the least", brim, x -> x.note(0, 1, 0, 0));
        Edge.full("a 7th NOTE, the most", brim, x -> x.note(6, 9, 99, 30));
        Edge.full("a 7th MARK, the least", brim, x -> x.mark(0, 1, 0, 0));
        Edge.full("a 7th MARK, the most", brim, x -> x.mark(3, 9, 30, 20));
    }

    /** eachNumberBeyond() says so of one wrong number each; here all others are plain ones. */
    private static void badIsAheadOfFull() {
        Supplier<PledgeWindow> brim = Towns::brim;
        Edge.bad("an 8th PROMISE of no KIND", brim, x -> x.promise(6, 5));
        Edge.bad("an 8th PROMISE of no WORTH", brim, x -> x.promise(2, 10));
        Edge.bad("a 5th HEARER of no KIND", brim, x -> x.hearer(6, 5));
        Edge.bad("a 5th HEARER of no WANT", brim, x -> x.hearer(2, 10));
        Edge.bad("a 4th BUYER of no PURSE", brim, x -> x.buyer(1000));
        Edge.bad("a 151st byte that is none", brim, x -> x.type(128));
        Edge.bad("a 6th SEEN one, too GOOD", brim, x -> x.seen(50, 31));
        Edge.bad("a 7th NOTE, too GOOD", brim, x -> x.note(3, 5, 50, 31));
        Edge.bad("a 7th MARK, too much JOY", brim, x -> x.mark(2, 5, 15, 21));
    }

    /** Told in place of an answer, but not as BAD, NO or FULL: so no STATUS counts it. */
    private static void notRefused() {
        Supplier<PledgeWindow> some = Towns::some;
        Edge.asks("bids(), not so many", some, -5, x -> x.bids(0, 1, 0, 0, Calls.NO_END));
        Edge.asks("when(), none", some, -1, x -> x.when(3, 30));
        Edge.asks("fit(), none for one", RefusedTest::hopeless, -1, x -> x.fit(0));
        Edge.asks("cheap(), none", RefusedTest::hopeless, -1, PledgeWindow::cheap);
        Edge.asks("tell(), none", RefusedTest::hopeless, -1, PledgeWindow::tell);
        Edge.asks("look(), none", RefusedTest::hopeless, -1, x -> x.look(1));
        Edge.asks("ask(), none", RefusedTest::hopeless, -1, x -> x.ask(0));
        Edge.asks("read(), a FAULT", RefusedTest::hopeless, -27, PledgeWindow::read);
    }

    /** Three wait for two PROMISES, nothing agrees with what was told, THE TEXT has a FAULT. */
    private static PledgeWindow hopeless() {
        PledgeWindow x = Towns.some();
        x.hearer(4, 9);
        x.hearer(4, 9);
        x.seen(0, 30);
        x.note(1, 1, 0, 30);
        x.mark(0, 1, 30, 20);
        Towns.type(x, "town;promise 1 7;fly;");
        return x;
    }
}
