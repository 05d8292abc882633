import java.util.function.Supplier;

/** The boundaries that promises 16 to 22 name, and those of the KINDS and the PRICE. */
public final class EdgeJoyTest {
    private EdgeJoyTest() {
    }

    public static void main(String[] args) {
        plainPromise();
        goldEachWholeTen();
        goldFiveAtMost();
        tinEachWholeFive();
        tinNoneAtLeast();
        childsTwoAtLeast();
        shipBelowSeven();
        ordinationTwiceGold();
        ordinationTwentyFiveAtMost();
        goodFrom0To60();
        goodIsWornInTheWindowOnly();
        goodBeyondTheLastDay();
        price();
        plainHearer();
        bride();
        mother();
        shy();
        deaf();
        keeper();
        joyOfWhomToWhom();
        whenFrom1To30();
        whenFirst();
        whenNone();
        whenBeyondTheLastDay();
        waits();
        fitWhoIsAsked();
        fitOneForEachAtMost();
        fitFirstWay();
        fitNoneOrNoJoy();
        fitOfTheWindowAlone();
        buyWhatIsAsked();
        buyWhatThePurseHolds();
        buyLeastOfLikeOnes();
        buyOfTheWindowAlone();
        buyForEachByEach();
        cheapNobodyWaits();
        cheapJoyOfOne();
        cheapOneForEach();
        cheapNone();
        cheapLeastTogether();
        ofASmallerTown();
        Check.end();
    }

    // ---- how GOOD, by KINDS

    /** GOOD of one of that KIND and WORTH, having lain so long: as good(), of() and SEEN say. */
    private static void good(String what, int kind, int worth, int lain, int due) {
        PledgeWindow x = new PledgeWindow();
        x.promise(kind, worth);
        String call = "16: " + what + ": KIND " + kind + " of WORTH " + worth + " behind " + lain;
        if (lain <= 60) {
            Check.due(call, x.good(0, lain), due);
        }
        if (lain <= 99) {
            x.seen(lain, due);
            Check.due(call + ", SEEN so", x.which(), 1);
            x.note(0, worth, lain, due);
            Check.due(call + ", by a NOTE so", x.is(0) >> kind & 1, 1);
        }
        Towns.wait(x, lain);
        Check.due(call + ", now", x.of(0, 4), due);
        Check.due(call + ", its PRICE", x.of(0, 5), 2 * due + 1);
    }

    private static void plainPromise() {
        good("v", 0, 1, 0, 1);
        good("v", 0, 9, 0, 9);
        good("v", 0, 9, 60, 9);
        good("v", 0, 9, 99, 9);
        good("v", 0, 9, 9999, 9);
    }

    private static void goldEachWholeTen() {
        good("new", 1, 6, 0, 6);
        good("not yet 10", 1, 6, 9, 6);
        good("whole 10", 1, 6, 10, 7);
        good("not yet 20", 1, 6, 19, 7);
        good("whole 20", 1, 6, 20, 8);
        good("not yet 30", 1, 6, 29, 8);
        good("whole 30", 1, 6, 30, 9);
        good("not yet 40", 1, 6, 39, 9);
        good("whole 40", 1, 6, 40, 10);
    }

    private static void goldFiveAtMost() {
        good("4 more", 1, 6, 49, 10);
        good("5 more", 1, 6, 50, 11);
        good("5 at most", 1, 6, 59, 11);
        good("5 at most", 1, 6, 60, 11);
        good("5 at most", 1, 9, 60, 14);
        good("5 at most", 1, 1, 99, 6);
        good("5 at most", 1, 9, 9999, 14);
    }

    private static void tinEachWholeFive() {
        good("new", 2, 9, 0, 9);
        good("not yet 5", 2, 9, 4, 9);
        good("whole 5", 2, 9, 5, 8);
        good("not yet 10", 2, 9, 9, 8);
        good("whole 10", 2, 9, 10, 7);
        good("not yet 40", 2, 9, 39, 2);
        good("whole 40", 2, 9, 40, 1);
    }

    private static void tinNoneAtLeast() {
        good("1 is left", 2, 9, 44, 1);
        good("none is left", 2, 9, 45, 0);
        good("0 at least", 2, 9, 50, 0);
        good("0 at least", 2, 9, 9999, 0);
        good("1 is left", 2, 1, 4, 1);
        good("none is left", 2, 1, 5, 0);
        good("0 at least", 2, 1, 10, 0);
    }

    private static void childsTwoAtLeast() {
        good("as TIN", 3, 9, 4, 9);
        good("as TIN", 3, 9, 5, 8);
        good("3 is left", 3, 9, 34, 3);
        good("2 is left", 3, 9, 35, 2);
        good("2 at least", 3, 9, 40, 2);
        good("2 at least", 3, 9, 45, 2);
        good("2 at least", 3, 9, 9999, 2);
        good("2 at least, new", 3, 1, 0, 2);
        good("2, new", 3, 2, 0, 2);
        good("2 at least", 3, 2, 5, 2);
        good("3, new", 3, 3, 0, 3);
    }

    private static void shipBelowSeven() {
        good("new", 4, 5, 0, 0);
        good("below 7", 4, 5, 6, 0);
        good("7", 4, 5, 7, 8);
        good("above 7", 4, 5, 8, 8);
        good("7", 4, 1, 7, 4);
        good("7", 4, 9, 7, 12);
        good("no better", 4, 9, 60, 12);
        good("no better", 4, 9, 9999, 12);
    }

    private static void ordinationTwiceGold() {
        good("new", 5, 1, 0, 2);
        good("not yet 10", 5, 1, 9, 2);
        good("whole 10", 5, 1, 10, 4);
        good("5 more, twice", 5, 1, 50, 12);
        good("5 more at most, twice", 5, 1, 60, 12);
        good("new, the most", 5, 9, 0, 18);
    }

    private static void ordinationTwentyFiveAtMost() {
        good("24", 5, 9, 30, 24);
        good("24", 5, 9, 39, 24);
        good("25 for 26", 5, 9, 40, 25);
        good("25 for 28", 5, 9, 50, 25);
        good("24", 5, 8, 49, 24);
        good("25 for 26", 5, 8, 50, 25);
        good("24, the most", 5, 7, 60, 24);
        good("25 at most", 5, 9, 9999, 25);
    }

    // ---- promise 16

    private static void goodFrom0To60() {
        Edge.asks("16: m 0", Towns::some, 9, x -> x.good(3, 0));
        Edge.asks("16: m 1", Towns::some, 8, x -> x.good(3, 1));
        Edge.asks("16: m 60", Towns::some, 12, x -> x.good(4, 60));
        Edge.asks("16: m 2, on the 6th", Towns::some, 0, x -> x.good(4, 2));
        Edge.asks("16: m 3, on the 7th", Towns::some, 12, x -> x.good(4, 3));
        Edge.bad("16: m -1", Towns::some, x -> x.good(3, -1));
        Edge.bad("16: m 61", Towns::some, x -> x.good(3, 61));
        Edge.bad("16: m 61 of a KEPT one", Towns::some, x -> x.good(0, 61));
        Edge.bad("16: PROMISE 5 of 5", Towns::some, x -> x.good(5, 0));
        Edge.bad("16: PROMISE -1", Towns::some, x -> x.good(-1, 0));
    }

    private static void goodIsWornInTheWindowOnly() {
        PledgeWindow x = new PledgeWindow();
        for (int p = 0; p < 3; p++) {
            x.promise(2, 9);
        }
        x.hearer(0, 9);
        x.buyer(99);
        x.days(4);
        x.buys(0, 1);
        x.buys(0, 2);
        x.keeps(2, 0);
        Check.due("16: IN THE WINDOW it is worn", x.good(0, 1), 8);
        Check.due("16: HELD it is not", x.good(1, 60), 9);
        Check.due("16: KEPT it is not", x.good(2, 60), 9);
        x.days(1);
        Check.due("16: IN THE WINDOW it was worn", x.good(0, 0), 8);
        Check.due("16: HELD it was not", x.good(1, 0), 9);
        Check.due("16: KEPT it was not", x.good(2, 0), 9);
    }

    private static PledgeWindow onTheLastDay() {
        PledgeWindow x = new PledgeWindow();
        x.promise(0, 5);
        Towns.wait(x, 9999);
        x.promise(1, 5);
        x.promise(2, 5);
        return x;
    }

    private static void goodBeyondTheLastDay() {
        Supplier<PledgeWindow> last = EdgeJoyTest::onTheLastDay;
        Edge.asks("16: DAYS go beyond 9999: 4 of them", last, 5, x -> x.good(2, 4));
        Edge.asks("16: DAYS go beyond 9999: 5 of them", last, 4, x -> x.good(2, 5));
        Edge.asks("16: DAYS go beyond 9999: 49 of them", last, 9, x -> x.good(1, 49));
        Edge.asks("16: DAYS go beyond 9999: 50 of them", last, 10, x -> x.good(1, 50));
        Edge.asks("16: what has lain all 9999", last, 5, x -> x.good(0, 60));
    }

    private static void price() {
        Edge.asks("13: PRICE of what is 0 GOOD", Towns::some, 1, x -> x.of(4, 5));
        Edge.asks("13: PRICE of what is 9 GOOD", Towns::some, 19, x -> x.of(3, 5));
        Edge.asks("13: PRICE of what is HELD", Towns::some, 13, x -> x.of(1, 5));
        Edge.asks("13: PRICE of what is KEPT", Towns::some, 11, x -> x.of(0, 5));
    }

    // ---- promise 17

    /** A PROMISE that is so GOOD on DAY 50. */
    private static PledgeWindow soGood(int good) {
        if (good == 0) {
            return behind(2, 1, 50);
        }
        if (good < 4) {
            return behind(0, good, 50);
        }
        if (good <= 12) {
            return behind(4, good - 3, 50);
        }
        if (good <= 14) {
            return behind(1, good - 5, 50);
        }
        return behind(5, good == 25 ? 9 : good / 2 - 5, 50);
    }

    /** JOY that one so GOOD makes: as joy(), keeps() and MARKS say. */
    private static void joy(String what, int kind, int want, int good, int due) {
        PledgeWindow x = soGood(good);
        x.hearer(kind, want);
        x.buyer(99);
        String call = "17: " + what + ": KIND " + kind + " who WANTS " + want + ", of " + good;
        Check.due(call + ", how GOOD it is", x.of(0, 4), good);
        Check.due(call, x.joy(0, 0), due);
        x.mark(0, want, good, due);
        Check.due(call + ", by a MARK so", x.kinds(0) >> kind & 1, 1);
        x.buys(0, 0);
        Check.due(call + ", HELD", x.joy(0, 0), due);
        Check.due(call + ", KEPT", x.keeps(0, 0), due);
        Check.due(call + ", JOY of all", x.count(6), due);
    }

    private static void plainHearer() {
        joy("just as WANTED", 0, 5, 5, 6);
        joy("1 above", 0, 5, 6, 5);
        joy("1 below", 0, 5, 4, 5);
        joy("5 above", 0, 5, 10, 1);
        joy("6 above: 0", 0, 5, 11, 0);
        joy("7 above: 0 at least", 0, 5, 12, 0);
        joy("5 below", 0, 7, 2, 1);
        joy("6 below: 0", 0, 7, 1, 0);
        joy("7 below: 0 at least", 0, 7, 0, 0);
        joy("16 above: 0 at least", 0, 9, 25, 0);
    }

    private static void bride() {
        joy("1 below", 1, 5, 4, 5);
        joy("g is w", 1, 5, 5, 8);
        joy("g is more", 1, 5, 6, 7);
        joy("5 above", 1, 5, 10, 3);
        joy("6 above: none, and 2", 1, 5, 11, 2);
        joy("16 above: none, and 2", 1, 9, 25, 2);
        joy("6 below: none", 1, 7, 1, 0);
        joy("1 below", 1, 9, 8, 5);
        joy("g is w", 1, 9, 9, 8);
    }

    private static void mother() {
        joy("just as WANTED", 2, 5, 5, 6);
        joy("2 above: 4", 2, 5, 7, 4);
        joy("3 above: 3", 2, 5, 8, 3);
        joy("4 above: 3 at least", 2, 5, 9, 3);
        joy("6 above: 3 at least", 2, 5, 11, 3);
        joy("16 above: 3 at least", 2, 9, 25, 3);
        joy("4 below: 3 at least", 2, 5, 1, 3);
        joy("9 below: 3 at least", 2, 9, 0, 3);
    }

    private static void shy() {
        joy("half of 8", 3, 5, 5, 4);
        joy("half of 7, cut up", 3, 5, 6, 4);
        joy("half of 6", 3, 5, 7, 3);
        joy("half of 5, cut up", 3, 5, 4, 3);
        joy("half of 2", 3, 5, 11, 1);
        joy("half of 1, cut up", 3, 7, 2, 1);
        joy("half of none", 3, 7, 1, 0);
    }

    private static void deaf() {
        joy("4, as WANTED", 4, 4, 4, 6);
        joy("below 4", 4, 4, 3, 0);
        joy("below 4, as WANTED", 4, 3, 3, 0);
        joy("4, as PLAIN", 4, 3, 4, 5);
        joy("none", 4, 1, 0, 0);
        joy("4, as PLAIN", 4, 9, 4, 1);
        joy("5 above", 4, 9, 14, 1);
        joy("as PLAIN: 0 at least", 4, 5, 12, 0);
    }

    private static void keeper() {
        joy("twice 6", 5, 5, 5, 12);
        joy("twice 4", 5, 5, 7, 8);
        joy("twice 3", 5, 5, 8, 6);
        joy("twice 3 at least", 5, 5, 9, 6);
        joy("twice 3 at least", 5, 9, 25, 6);
        joy("twice 3 at least", 5, 9, 0, 6);
    }

    private static void joyOfWhomToWhom() {
        Edge.asks("17: PROMISE 0, HEARER 0", Towns::some, 8, x -> x.joy(0, 0));
        Edge.asks("17: PROMISE 4 of 5, HEARER 1 of 2", Towns::some, 6, x -> x.joy(4, 1));
        Edge.bad("17: PROMISE 5 of 5", Towns::some, x -> x.joy(5, 0));
        Edge.bad("17: PROMISE -1", Towns::some, x -> x.joy(-1, 0));
        Edge.bad("17: HEARER 2 of 2", Towns::some, x -> x.joy(0, 2));
        Edge.bad("17: HEARER -1", Towns::some, x -> x.joy(0, -1));
        Edge.asks("17: PROMISE 6 of 7, HEARER 3 of 4", Towns::brim, 12, x -> x.joy(6, 3));
        Edge.bad("17: PROMISE 7 of 7", Towns::brim, x -> x.joy(7, 3));
        Edge.bad("17: HEARER 4 of 4", Towns::brim, x -> x.joy(6, 4));
    }

    // ---- promise 18

    private static void whenFrom1To30() {
        Edge.asks("18: x 1", Towns::some, 3, x -> x.when(4, 1));
        Edge.asks("18: x 30, none is", Towns::some, -1, x -> x.when(4, 30));
        Edge.bad("18: x 0", Towns::some, x -> x.when(4, 0));
        Edge.bad("18: x 31", Towns::some, x -> x.when(4, 31));
        Edge.bad("18: PROMISE 5 of 5", Towns::some, x -> x.when(5, 1));
        Edge.bad("18: PROMISE -1", Towns::some, x -> x.when(-1, 1));
    }

    private static PledgeWindow behind(int kind, int worth, int days) {
        PledgeWindow x = new PledgeWindow();
        x.promise(kind, worth);
        Towns.wait(x, days);
        return x;
    }

    private static void whenFirst() {
        Check.due("18: now, just so GOOD", behind(0, 5, 0).when(0, 5), 0);
        Check.due("18: now, better", behind(0, 5, 0).when(0, 4), 0);
        Check.due("18: TIN now, though worse later", behind(2, 5, 4).when(0, 5), 0);
        Check.due("18: a SHIP, new", behind(4, 5, 0).when(0, 8), 7);
        Check.due("18: a SHIP on its 6th", behind(4, 5, 6).when(0, 8), 1);
        Check.due("18: a SHIP on its 7th", behind(4, 5, 7).when(0, 8), 0);
        Check.due("18: GOLD, 1 better", behind(1, 5, 0).when(0, 6), 10);
        Check.due("18: GOLD, on its 9th", behind(1, 5, 9).when(0, 6), 1);
        Check.due("18: GOLD, on its 10th", behind(1, 5, 10).when(0, 6), 0);
        Check.due("18: GOLD, 5 better", behind(1, 5, 0).when(0, 10), 50);
        Check.due("18: the most that any is", behind(5, 9, 0).when(0, 25), 40);
    }

    private static void whenNone() {
        Check.due("18: PLAIN, 1 better", behind(0, 5, 0).when(0, 6), -1);
        Check.due("18: GOLD, 6 better", behind(1, 5, 0).when(0, 11), -1);
        Check.due("18: TIN, worn", behind(2, 5, 5).when(0, 5), -1);
        Check.due("18: a SHIP, 4 better", behind(4, 5, 0).when(0, 9), -1);
        Check.due("18: above the most that any is", behind(5, 9, 0).when(0, 26), -1);
        PledgeWindow x = behind(4, 5, 6);
        x.buyer(1);
        x.hearer(0, 1);
        x.buys(0, 0);
        Check.due("18: HELD, never", x.when(0, 1), -1);
        x.keeps(0, 0);
        Check.due("18: KEPT, never", x.when(0, 1), -1);
        PledgeWindow y = behind(4, 5, 7);
        y.buyer(17);
        y.buys(0, 0);
        Check.due("18: HELD, now or never", y.when(0, 8), 0);
        Check.due("18: HELD, never better", y.when(0, 9), -1);
    }

    private static void whenBeyondTheLastDay() {
        Edge.asks("18: GOLD on DAY 9999", EdgeJoyTest::onTheLastDay, 50, x -> x.when(1, 10));
        Edge.asks("18: PLAIN on DAY 9999", EdgeJoyTest::onTheLastDay, -1, x -> x.when(0, 6));
    }

    // ---- promise 19

    private static void waits() {
        PledgeWindow x = new PledgeWindow();
        Check.due("19: nobody", x.waits(), 0);
        x.buyer(999);
        for (int h = 0; h < 4; h++) {
            x.hearer(0, 5);
            Check.due("19: all that are there", x.waits(), (2 << h) - 1);
        }
        for (int p = 0; p < 5; p++) {
            x.promise(0, 5);
        }
        for (int h = 3; h >= 0; h--) {
            x.buys(0, h);
            Check.due("19: HELD is not KEPT", x.waits(), (2 << h) - 1);
            x.keeps(h, h);
            Check.due("19: HEARER " + h + " WAITS no more", x.waits(), (1 << h) - 1);
        }
        x.buys(0, 4);
        x.keeps(4, 0);
        Check.due("19: a second one to one", x.waits(), 0);
        x.undo();
        Check.due("19: undone, the first one is left", x.waits(), 0);
        x.undo();
        x.undo();
        Check.due("19: undone, none is", x.waits(), 1);
    }

    // ---- promise 20

    private static PledgeWindow fitting(int[] worths, int... wants) {
        PledgeWindow x = new PledgeWindow();
        for (int worth : worths) {
            x.promise(0, worth);
        }
        for (int want : wants) {
            x.hearer(0, want);
        }
        return x;
    }

    private static void fitIs(String what, PledgeWindow x, int much, int... whom) {
        Check.due("20: " + what + ", how much", x.fit(-1), much);
        for (int h = 0; h < whom.length; h++) {
            Check.due("20: " + what + ", for " + h, x.fit(h), whom[h]);
        }
    }

    private static void fitWhoIsAsked() {
        Edge.asks("20: NONE: how much", Towns::some, 10, x -> x.fit(-1));
        Edge.asks("20: HEARER 0", Towns::some, 3, x -> x.fit(0));
        Edge.asks("20: HEARER 1 of 2, who WAITS no more", Towns::some, 4, x -> x.fit(1));
        Edge.refused("20: HEARER 2 of 2", Towns::some, 0, -10, x -> x.fit(2));
        Edge.refused("20: -2", Towns::some, 0, -10, x -> x.fit(-2));
        Edge.refused("20: HEARER 0 of none", Towns::bare, 0, -10, x -> x.fit(0));
        Edge.asks("20: NONE, where nobody is", Towns::bare, 0, x -> x.fit(-1));
        Edge.refused("20: HEARER 4 of 4", Towns::brim, 0, -10, x -> x.fit(4));
    }

    private static void fitOneForEachAtMost() {
        fitIs("one for two", fitting(new int[] {5}, 5, 6), 6, 0, -1);
        fitIs("two for one", fitting(new int[] {5, 6}, 6), 6, 1);
        fitIs("seven for four", fitting(new int[] {1, 2, 3, 4, 5, 6, 7}, 7, 5, 3, 1), 24, 6, 4, 2, 0);
        fitIs("the last of seven", fitting(new int[] {1, 1, 1, 1, 1, 1, 7}, 7), 6, 6);
        fitIs("none for four", fitting(new int[0], 1, 2, 3, 4), 0, -1, -1, -1, -1);
        fitIs("seven for nobody", fitting(new int[] {1, 2, 3, 4, 5, 6, 7}), 0);
        // the best for the first alone would be 5, and none for the second
        fitIs("most JOY together", fitting(new int[] {4, 9}, 5, 2), 6, 1, 0);
    }

    private static void fitFirstWay() {
        fitIs("like PROMISES, rising", fitting(new int[] {5, 5, 5}, 5, 5), 12, 0, 1);
        fitIs("like HEARERS: none first", fitting(new int[] {5}, 5, 5, 5), 6, -1, -1, 0);
        fitIs("two for three: none first", fitting(new int[] {5, 5}, 5, 5, 5), 12, -1, 0, 1);
        fitIs("none ahead of a JOY of 0", fitting(new int[] {9}, 1, 9), 6, -1, 0);
        // PROMISES 0 and 1 are as far from either, so both ways make as much
        fitIs("crossed or not", fitting(new int[] {4, 6}, 5, 5), 10, 0, 1);
        fitIs("the first HEARER counts ahead of the second", fitting(new int[] {7, 3, 5}, 5, 5), 10, 0, 2);
    }

    private static void fitNoneOrNoJoy() {
        fitIs("JOY of 1", fitting(new int[] {1}, 6), 1, 0);
        fitIs("JOY of 0 is none", fitting(new int[] {1}, 7), 0, -1);
        fitIs("JOY of 0 to two", fitting(new int[] {1, 1}, 7, 9), 0, -1, -1);
    }

    private static void fitOfTheWindowAlone() {
        PledgeWindow x = fitting(new int[] {5, 5, 4}, 5, 5);
        x.buyer(99);
        x.buys(0, 0);
        fitIs("one HELD", x, 11, 1, 2);
        x.keeps(0, 0);
        fitIs("one KEPT: whoever WAITS or not", x, 11, 1, 2);
        x.buys(0, 1);
        x.buys(0, 2);
        fitIs("nothing IN THE WINDOW", x, 0, -1, -1);
        x.undo();
        fitIs("one IN THE WINDOW", x, 5, -1, 2);
    }

    // ---- promise 21

    private static PledgeWindow buying(int purse, int want, int... worths) {
        PledgeWindow x = fitting(worths, want);
        x.buyer(purse);
        return x;
    }

    private static void buyIs(String what, PledgeWindow x, int much, int bits) {
        Check.due("21: " + what + ", how much", x.buy(0, 0, 0), much);
        Check.due("21: " + what + ", which", x.buy(0, 0, 1), bits);
    }

    private static void buyWhatIsAsked() {
        Edge.asks("21: how much", Towns::some, 1, x -> x.buy(0, 0, 0));
        Edge.asks("21: which", Towns::some, 16, x -> x.buy(0, 0, 1));
        Edge.bad("21: what -1", Towns::some, x -> x.buy(0, 0, -1));
        Edge.bad("21: what 2", Towns::some, x -> x.buy(0, 0, 2));
        Edge.bad("21: BUYER 2 of 2", Towns::some, x -> x.buy(2, 0, 0));
        Edge.bad("21: BUYER -1", Towns::some, x -> x.buy(-1, 0, 0));
        Edge.bad("21: HEARER 2 of 2", Towns::some, x -> x.buy(0, 2, 0));
        Edge.bad("21: HEARER -1", Towns::some, x -> x.buy(0, -1, 0));
        Edge.bad("21: BUYER 3 of 3", Towns::brim, x -> x.buy(3, 0, 0));
        Edge.bad("21: HEARER 4 of 4", Towns::brim, x -> x.buy(0, 4, 0));
        Edge.bad("21: nobody for nobody", Towns::bare, x -> x.buy(0, 0, 0));
    }

    private static void buyWhatThePurseHolds() {
        // PRICES 11 and 9, JOYS 6 and 5
        buyIs("none", buying(8, 5, 5, 4), 0, 0);
        buyIs("just the second", buying(9, 5, 5, 4), 5, 2);
        buyIs("not yet the first", buying(10, 5, 5, 4), 5, 2);
        buyIs("just the first", buying(11, 5, 5, 4), 6, 1);
        buyIs("not yet both", buying(19, 5, 5, 4), 6, 1);
        buyIs("just both", buying(20, 5, 5, 4), 11, 3);
        buyIs("an empty PURSE", buying(0, 5, 5, 4), 0, 0);
        buyIs("all seven", buying(999, 5, 5, 5, 5, 5, 5, 5, 5), 42, 127);
        buyIs("all seven, just so", buying(77, 5, 5, 5, 5, 5, 5, 5, 5), 42, 127);
        buyIs("all but one", buying(76, 5, 5, 5, 5, 5, 5, 5, 5), 36, 63);
        buyIs("nothing there", buying(99, 5), 0, 0);
    }

    private static void buyLeastOfLikeOnes() {
        buyIs("one of two alike", buying(11, 5, 5, 5), 6, 1);
        // PRICES 7, 9, 13, 15; JOYS 4, 5, 5, 4: the first and any of JOY 5
        buyIs("like JOY for another PRICE", buying(20, 5, 3, 4, 6, 7), 9, 3);
        buyIs("like JOY by other bits", buying(13, 5, 6, 4), 5, 1);
        buyIs("what makes no JOY is not bought", buying(99, 1, 1, 9, 8), 6, 1);
        buyIs("nothing makes any", buying(99, 1, 9, 8, 7), 0, 0);
        buyIs("a JOY of 1", buying(99, 1, 9, 8, 6), 1, 4);
        // 6 of one, or 3 of each of two: alike JOY, and the bits of the two are fewer
        buyIs("two ahead of one", buying(14, 5, 2, 2, 5), 6, 3);
    }

    private static void buyOfTheWindowAlone() {
        PledgeWindow x = buying(99, 5, 5, 5, 5);
        x.buys(0, 0);
        buyIs("one HELD", x, 12, 6);
        x.keeps(0, 0);
        buyIs("one KEPT", x, 12, 6);
        x.buys(0, 1);
        x.buys(0, 2);
        buyIs("nothing IN THE WINDOW", x, 0, 0);
    }

    /** Other HEARERS have JOY of others, other PURSES hold others. */
    private static void buyForEachByEach() {
        PledgeWindow x = fitting(new int[] {1, 1, 9, 9, 5, 5, 5}, 1, 9, 5);
        x.hearer(5, 5);
        x.buyer(3);
        x.buyer(11);
        x.buyer(22);
        // PRICES 3, 3, 19, 19, 11, 11, 11
        int[][] much = {{6, 0, 2, 6}, {12, 2, 6, 12}, {14, 6, 12, 24}};
        int[][] bits = {{1, 0, 1, 1}, {3, 16, 16, 3}, {19, 4, 48, 19}};
        for (int b = 0; b < 3; b++) {
            for (int h = 0; h < 4; h++) {
                Check.due("21: BUYER " + b + " for HEARER " + h + ", how much", x.buy(b, h, 0), much[b][h]);
                Check.due("21: BUYER " + b + " for HEARER " + h + ", which", x.buy(b, h, 1), bits[b][h]);
            }
        }
    }

    // ---- promise 22

    private static void cheapNobodyWaits() {
        Edge.asks("22: nobody is there", Towns::bare, 0, PledgeWindow::cheap);
        PledgeWindow x = buying(99, 5, 5);
        Check.due("22: one WAITS", x.cheap(), 11);
        x.buys(0, 0);
        Check.due("22: HELD, he WAITS still", x.cheap(), -1);
        x.keeps(0, 0);
        Check.due("22: KEPT, nobody WAITS", x.cheap(), 0);
        x.promise(0, 5);
        Check.due("22: nobody WAITS for another", x.cheap(), 0);
        x.hearer(0, 5);
        Check.due("22: another WAITS", x.cheap(), 11);
    }

    private static void cheapJoyOfOne() {
        Check.due("22: a JOY of 1", fitting(new int[] {1}, 6).cheap(), 3);
        Check.due("22: a JOY of 0", fitting(new int[] {1}, 7).cheap(), -1);
        Check.due("22: the dear one makes some", fitting(new int[] {1, 9}, 7).cheap(), 19);
        // a SHIP that is out makes JOY to who WANTS 5, none to who WANTS 6
        PledgeWindow x = new PledgeWindow();
        x.promise(4, 9);
        x.hearer(0, 5);
        Check.due("22: the least PRICE", x.cheap(), 1);
        PledgeWindow y = new PledgeWindow();
        y.promise(4, 9);
        y.hearer(0, 6);
        Check.due("22: by no JOY", y.cheap(), -1);
        y.days(7);
        Check.due("22: the SHIP is in", y.cheap(), -1);
    }

    private static void cheapOneForEach() {
        Check.due("22: two for two", fitting(new int[] {5, 5}, 5, 5).cheap(), 22);
        Check.due("22: one for two", fitting(new int[] {5}, 5, 5).cheap(), -1);
        Check.due("22: four for four", fitting(new int[] {5, 5, 5, 5}, 5, 5, 5, 5).cheap(), 44);
        Check.due("22: three for four", fitting(new int[] {5, 5, 5}, 5, 5, 5, 5).cheap(), -1);
        Check.due("22: the four least of seven",
                fitting(new int[] {7, 6, 5, 4, 3, 2, 1}, 4, 4, 4, 4).cheap(), 3 + 5 + 7 + 9);
    }

    private static void cheapNone() {
        Check.due("22: nothing there", fitting(new int[0], 5).cheap(), -1);
        Check.due("22: one of two has none", fitting(new int[] {1, 1}, 1, 9).cheap(), -1);
        Check.due("22: both have but the same one", fitting(new int[] {1, 9}, 1, 1).cheap(), -1);
        PledgeWindow x = buying(0, 9, 9);
        Check.due("22: an empty PURSE is no hindrance", x.cheap(), 19);
    }

    private static void cheapLeastTogether() {
        // the second HEARER has JOY of the cheapest alone, so the first must have the dear one
        Check.due("22: the cheapest is not for the first", fitting(new int[] {1, 9}, 5, 1).cheap(), 22);
        Check.due("22: crossed", fitting(new int[] {9, 4}, 4, 9).cheap(), 28);
        PledgeWindow x = fitting(new int[] {5, 4, 6}, 5, 5);
        x.buyer(99);
        x.buys(0, 1);
        Check.due("22: what is HELD is not for sale", x.cheap(), 24);
    }

    /** What a larger town answered is no part of what a smaller one does. */
    private static void ofASmallerTown() {
        PledgeWindow x = fitting(new int[] {5, 5, 5, 5, 5, 5, 5}, 5, 5, 5, 5);
        x.buyer(999);
        fitIs("of all", x, 24, 0, 1, 2, 3);
        buyIs("of all", x, 42, 127);
        Check.due("22: of all", x.cheap(), 44);
        Check.due("34: of all", x.redeemed(0), 1);
        Check.due("34: of all, above", x.part(0), 77);
        x.town();
        x.promise(0, 5);
        x.promise(0, 5);
        x.hearer(0, 5);
        x.buyer(999);
        fitIs("of two for one", x, 6, 0);
        buyIs("of two", x, 12, 3);
        Check.due("19: one WAITS", x.waits(), 1);
        Check.due("22: for one", x.cheap(), 11);
        x.redeemed(0);
        Check.due("34: of two, above", x.part(0), 22);
    }
}
