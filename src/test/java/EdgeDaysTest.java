import java.util.List;

/** The boundaries that promises 9 to 15 name: days, buying, keeping, undoing, what each one is. */
public final class EdgeDaysTest {
    private EdgeDaysTest() {
    }

    public static void main(String[] args) {
        daysOneToNinetyNine();
        daysTogetherOneToUndo();
        daysAlsoIfNoneGoesBy();
        daysLastIs9999();
        daysWearWhatLiesInTheWindow();
        buysWhatThePurseHolds();
        buysTheLeastAndTheMost();
        buysOnlyFromTheWindow();
        buysBadOrNo();
        keepsWhatIsHeld();
        keepsForGood();
        keepsWithoutJoy();
        keepsAllToOne();
        undoEightAtMost();
        undoEachSort();
        undoTheLastOfEach();
        undoNoneBehindAComer();
        undoThenOn();
        undoWhatIsNotUndone();
        ofPromises();
        ofWhat();
        ofPlaces();
        ofWorn();
        aboutHearers();
        purseOfBuyers();
        Check.end();
    }

    // ---- promise 9

    private static void daysOneToNinetyNine() {
        PledgeWindow x = new PledgeWindow();
        Check.due("9: days(1)", x.days(1), 1);
        Check.due("9: days(99)", x.days(99), 100);
        Edge.bad("9: days(0)", Towns::some, y -> y.days(0));
        Edge.bad("9: days(100)", Towns::some, y -> y.days(100));
        Edge.bad("9: days(-1)", Towns::some, y -> y.days(-1));
        Edge.bad("9: days(0) on the last DAY", Towns::brim, y -> y.days(0));
        Edge.bad("9: days(100) on the last DAY", Towns::brim, y -> y.days(100));
    }

    private static void daysTogetherOneToUndo() {
        PledgeWindow x = new PledgeWindow();
        x.promise(0, 5);
        x.days(3);
        x.days(99);
        Check.due("9: two to undo", x.count(10), 2);
        Check.due("9: 99 DAYS are undone together", x.undo(), 3);
        Check.due("9: how long it has lain then", x.of(0, 2), 3);
        Check.due("9: one to undo", x.count(10), 1);
        Check.due("9: and the three", x.undo(), 0);
    }

    private static PledgeWindow onDay(int day) {
        PledgeWindow x = new PledgeWindow();
        x.promise(1, 5);
        Towns.wait(x, day);
        // nothing may be undone behind a BUYER
        x.buyer(50);
        return x;
    }

    private static void daysAlsoIfNoneGoesBy() {
        for (int n : new int[] {1, 99}) {
            PledgeWindow x = onDay(9999);
            Check.due("9: days(" + n + ") on DAY 9999", x.days(n), 9999);
            Check.due("9: none goes by", x.of(0, 2), 9999);
            Check.due("9: one that may be undone", x.count(10), 1);
            Check.due("9: undone", x.undo(), 9999);
            Check.due("9: none goes back", x.of(0, 2), 9999);
            Check.due("9: none that may be undone", x.count(10), 0);
            Check.due("9: undo()", x.undo(), -3);
        }
        PledgeWindow x = onDay(9999);
        for (int n = 1; n <= 9; n++) {
            x.days(1);
            Check.due("9: as many as may be undone", x.count(10), Math.min(n, 8));
        }
    }

    private static void daysLastIs9999() {
        Check.due("9: from 9997 by 1", onDay(9997).days(1), 9998);
        Check.due("9: from 9998 by 1", onDay(9998).days(1), 9999);
        Check.due("9: from 9998 by 2", onDay(9998).days(2), 9999);
        Check.due("9: from 9900 by 99", onDay(9900).days(99), 9999);
        Check.due("9: from 9901 by 99", onDay(9901).days(99), 9999);
        PledgeWindow x = onDay(9950);
        Check.due("9: from 9950 by 99", x.days(99), 9999);
        Check.due("9: only 49 go by", x.of(0, 2), 9999);
        Check.due("9: the DAY", x.count(3), 9999);
        Check.due("9: undone together", x.undo(), 9950);
        Check.due("9: it has lain", x.of(0, 2), 9950);
        x.promise(1, 5);
        x.days(99);
        Check.due("9: one that came later has lain 49", x.of(1, 2), 49);
        Check.due("9: so it is 9 GOOD, not 10", x.of(1, 4), 9);
    }

    private static void daysWearWhatLiesInTheWindow() {
        PledgeWindow x = Towns.some();
        x.days(1);
        int[] lain = {4, 4, 4, 5, 5};
        for (int p = 0; p < 5; p++) {
            Check.due("9: how long " + p + " has lain", x.of(p, 2), lain[p]);
        }
        Check.due("9: TIN is worn on its 5th DAY", x.of(3, 4), 8);
        Check.due("9: the SHIP not yet in", x.of(4, 4), 0);
        x.days(1);
        Check.due("9: nor the DAY behind", x.of(4, 4), 0);
        x.days(1);
        Check.due("9: but on its 7th", x.of(4, 4), 12);
    }

    // ---- promise 10

    private static PledgeWindow shop(int purse, int kind, int worth) {
        PledgeWindow x = new PledgeWindow();
        x.promise(kind, worth);
        x.buyer(purse);
        x.days(10);
        return x;
    }

    private static void buysWhatThePurseHolds() {
        // GOLD of 5 is 6 GOOD behind 10 DAYS: its PRICE is 13
        Check.due("10: 13 for 13", shop(13, 1, 5).buys(0, 0), 0);
        Check.due("10: 13 of 14", shop(14, 1, 5).buys(0, 0), 1);
        Edge.no("10: 13 of 12", () -> shop(12, 1, 5), x -> x.buys(0, 0));
        Edge.no("10: 13 of none", () -> shop(0, 1, 5), x -> x.buys(0, 0));
        PledgeWindow x = shop(25, 1, 5);
        x.promise(1, 5);
        Check.due("10: 13 of 25", x.buys(0, 0), 12);
        Check.due("10: 11 of 12", x.buys(0, 1), 1);
        Check.due("10: HELD are both", x.purse(0, 1), 3);
        x.promise(4, 5);
        Check.due("10: a SHIP that is out, 1 of 1", x.buys(0, 2), 0);
    }

    private static void buysTheLeastAndTheMost() {
        Check.due("10: the least PRICE, 1 of 1", shop(1, 2, 2).buys(0, 0), 0);
        Edge.no("10: the least PRICE of none", () -> shop(0, 2, 2), x -> x.buys(0, 0));
        PledgeWindow x = new PledgeWindow();
        x.buyer(51);
        x.buyer(50);
        x.buyer(999);
        x.promise(5, 9);
        x.promise(5, 9);
        x.days(40);
        Check.due("10: the most PRICE", x.of(0, 5), 51);
        Check.due("10: 51 of 50", x.buys(1, 0), -3);
        Check.due("10: 51 of 51", x.buys(0, 0), 0);
        Check.due("10: 51 of 999", x.buys(2, 1), 948);
    }

    private static void buysOnlyFromTheWindow() {
        Edge.no("10: HELD by himself", Towns::some, x -> x.buys(1, 1));
        Edge.no("10: HELD by another", Towns::some, x -> x.buys(1, 2));
        Edge.no("10: KEPT", Towns::some, x -> x.buys(1, 0));
        PledgeWindow x = Towns.some();
        Check.due("10: IN THE WINDOW, by BUYER 0", x.buys(0, 4), 9);
        Check.due("10: he HOLDS it", x.of(4, 3), 1);
        PledgeWindow y = Towns.some();
        Check.due("10: IN THE WINDOW, by BUYER 1", y.buys(1, 4), 15);
        Check.due("10: he HOLDS it", y.of(4, 3), 2);
        Check.due("10: nobody else does", y.purse(0, 1), 4);
    }

    private static void buysBadOrNo() {
        Edge.bad("10: BUYER 2 of 2", Towns::some, x -> x.buys(2, 4));
        Edge.bad("10: BUYER -1", Towns::some, x -> x.buys(-1, 4));
        Edge.bad("10: PROMISE 5 of 5", Towns::some, x -> x.buys(1, 5));
        Edge.bad("10: PROMISE -1", Towns::some, x -> x.buys(1, -1));
        Edge.bad("10: BUYER 3 of 3", Towns::brim, x -> x.buys(3, 0));
        Edge.bad("10: PROMISE 7 of 7", Towns::brim, x -> x.buys(0, 7));
        Edge.bad("10: BUYER 2 for a KEPT one: BAD is the first of", Towns::some, x -> x.buys(2, 0));
        Edge.bad("10: nobody, nothing", Towns::bare, x -> x.buys(0, 0));
        PledgeWindow x = Towns.brim();
        Check.due("10: BUYER 2 of 3, IN THE WINDOW", x.buys(2, 3), 24);
        PledgeWindow y = new PledgeWindow();
        for (int p = 0; p < 7; p++) {
            y.promise(0, 1);
        }
        y.buyer(3);
        Check.due("10: PROMISE 6 of 7", y.buys(0, 6), 0);
    }

    // ---- promise 11

    private static void keepsWhatIsHeld() {
        PledgeWindow x = Towns.some();
        Check.due("11: HELD by BUYER 1", x.keeps(1, 0), 7);
        Check.due("11: HELD by BUYER 0", x.keeps(2, 1), 6);
        Check.due("11: JOY of all", x.count(6), 8 + 7 + 6);
        Check.due("11: KEPT are three", x.count(5), 3);
        Edge.no("11: IN THE WINDOW", Towns::some, y -> y.keeps(3, 0));
        Edge.no("11: KEPT to him", Towns::some, y -> y.keeps(0, 1));
        Edge.no("11: KEPT to another", Towns::some, y -> y.keeps(0, 0));
        Edge.bad("11: PROMISE 5 of 5", Towns::some, y -> y.keeps(5, 0));
        Edge.bad("11: PROMISE -1", Towns::some, y -> y.keeps(-1, 0));
        Edge.bad("11: HEARER 2 of 2", Towns::some, y -> y.keeps(1, 2));
        Edge.bad("11: HEARER -1", Towns::some, y -> y.keeps(1, -1));
        Edge.bad("11: IN THE WINDOW, to HEARER 2: BAD is the first of", Towns::some, y -> y.keeps(3, 2));
        Edge.bad("11: nothing to nobody", Towns::bare, y -> y.keeps(0, 0));
        Edge.bad("11: PROMISE 7 of 7", Towns::brim, y -> y.keeps(7, 0));
        Edge.bad("11: HEARER 4 of 4", Towns::brim, y -> y.keeps(5, 4));
        PledgeWindow brim = Towns.brim();
        Check.due("11: HEARER 3 of 4, by BUYER 2", brim.keeps(2, 3), 6);
        Check.due("11: it is there", brim.of(2, 3), 13);
    }

    private static void keepsForGood() {
        PledgeWindow x = Towns.some();
        x.days(99);
        Check.due("11: still KEPT", x.of(0, 3), 11);
        Check.due("11: it has lain as long as it had", x.of(0, 2), 4);
        Check.due("11: nobody can BUY it", x.buys(1, 0), -3);
        Check.due("11: nor KEEP it", x.keeps(0, 0), -3);
        Check.due("11: the JOY of it stays", x.count(6), 8);
    }

    private static void keepsWithoutJoy() {
        PledgeWindow x = new PledgeWindow();
        x.promise(0, 1);
        x.promise(0, 3);
        x.hearer(0, 7);
        x.buyer(99);
        x.buys(0, 0);
        x.buys(0, 1);
        // 6 away is none, 4 away is 2
        Check.due("11: a JOY of 0", x.keeps(0, 0), 0);
        Check.due("11: it is KEPT all the same", x.about(0, 2), 1);
        Check.due("11: he WAITS no more", x.waits(), 0);
        Check.due("11: JOY", x.count(6), 0);
        Check.due("11: a JOY of 2", x.keeps(1, 0), 2);
        Check.due("11: JOY then", x.count(6), 2);
    }

    private static void keepsAllToOne() {
        PledgeWindow x = new PledgeWindow();
        x.hearer(0, 1);
        x.hearer(5, 9);
        x.buyer(999);
        for (int p = 0; p < 7; p++) {
            x.promise(0, 9);
        }
        for (int p = 0; p < 7; p++) {
            x.buys(0, p);
            Check.due("11: PROMISE " + p + " to one", x.keeps(p, 1), 12);
            Check.due("11: KEPT to him", x.about(1, 2), (2 << p) - 1);
        }
        Check.due("11: JOY of all", x.count(6), 84);
        Check.due("11: KEPT are all seven", x.count(5), 7);
        Check.due("11: IN THE WINDOW is none", x.count(4), 0);
        Check.due("11: the other one WAITS", x.waits(), 1);
    }

    // ---- promise 12

    /** Steps of all sorts, each of which leaves another town. */
    private static void step(PledgeWindow x, int n) {
        switch (n % 3) {
            case 0:
                x.days(n + 1);
                break;
            case 1:
                x.buys(0, n / 3);
                break;
            default:
                x.keeps(n / 3, 0);
                break;
        }
    }

    private static void undoEightAtMost() {
        for (int steps = 0; steps <= 12; steps++) {
            PledgeWindow x = new PledgeWindow();
            for (int p = 0; p < 7; p++) {
                x.promise(p % 6, 5);
            }
            x.hearer(2, 5);
            x.buyer(500);
            long[] digests = new long[steps + 1];
            int[] days = new int[steps + 1];
            for (int n = 0; n < steps; n++) {
                digests[n] = whereAllIs(x);
                days[n] = x.count(3);
                step(x, n);
                Check.due("12: that may be undone behind " + (n + 1), x.count(10), Math.min(n + 1, 8));
            }
            int may = Math.min(steps, 8);
            for (int n = 1; n <= may; n++) {
                Check.due("12: undo() " + n + " of " + steps, x.undo(), days[steps - n]);
                Check.due("12: all as ahead of it", whereAllIs(x), digests[steps - n]);
                Check.due("12: that may be undone then", x.count(10), may - n);
            }
            Check.no("12: none more of " + steps, x, x::undo);
            Check.due("12: that may be undone then", x.count(10), 0);
        }
    }

    private static long whereAllIs(PledgeWindow x) {
        long h = x.count(3) * 1000L + x.count(6);
        for (int p = 0; p < 7; p++) {
            h = 31 * h + x.of(p, 2);
            h = 31 * h + x.of(p, 3);
        }
        return 31 * h + x.purse(0, 0);
    }

    private static void undoEachSort() {
        PledgeWindow x = Towns.some();
        x.keeps(1, 0);
        Check.due("12: KEEPING undone", x.undo(), 4);
        Check.due("12: he HOLDS it again", x.of(1, 3), 2);
        Check.due("12: JOY as ahead of it", x.count(6), 8);
        Check.due("12: BUYING undone", x.undo(), 4);
        Check.due("12: IN THE WINDOW again", x.of(2, 3), 0);
        Check.due("12: PURSE as ahead of it", x.purse(0, 0), 19);
        x.days(7);
        Check.due("12: it wears again", x.of(2, 2), 11);
        Check.due("12: DAYS undone", x.undo(), 4);
        Check.due("12: it has lain as ahead of them", x.of(2, 2), 4);
        Check.due("12: four are left", x.count(10), 4);
        Edge.no("12: none may be", Towns::bare, PledgeWindow::undo);
    }

    /** PROMISE 6, HEARER 3 and BUYER 2 are undone as any other, and so is the JOY beside them. */
    private static void undoTheLastOfEach() {
        PledgeWindow x = new PledgeWindow();
        for (int p = 0; p < 7; p++) {
            x.promise(1, 3 + p % 2);
        }
        for (int h = 0; h < 4; h++) {
            x.hearer(0, 3);
        }
        for (int b = 0; b < 3; b++) {
            x.buyer(40 + b);
        }
        x.buys(0, 0);
        x.keeps(0, 0);
        x.days(10);
        x.buys(2, 6);
        x.keeps(6, 3);
        Check.due("12: JOY of both", x.count(6), 11);
        x.undo();
        Check.due("12: HELD by BUYER 2 again", x.of(6, 3), 3);
        Check.due("12: JOY of the first", x.count(6), 6);
        Check.due("12: PURSE as it was behind BUYING", x.purse(2, 0), 33);
        x.undo();
        Check.due("12: IN THE WINDOW again", x.of(6, 3), 0);
        Check.due("12: PURSE of BUYER 2 again", x.purse(2, 0), 42);
        Check.due("12: JOY of the first still", x.count(6), 6);
        x.undo();
        Check.due("12: it has lain as ahead of the DAYS", x.of(6, 2), 0);
        Check.due("12: PURSE of BUYER 2 still", x.purse(2, 0), 42);
        x.undo();
        Check.due("12: JOY of none", x.count(6), 0);
        Check.due("12: PURSE of BUYER 1 as ever", x.purse(1, 0), 41);
        x.undo();
        Check.due("12: PURSE of BUYER 0 again", x.purse(0, 0), 40);
        Check.due("12: none is left", x.undo(), -3);
    }

    private static void undoNoneBehindAComer() {
        Edge.no("12: behind a PROMISE", () -> {
            PledgeWindow x = Towns.some();
            x.promise(0, 1);
            return x;
        }, PledgeWindow::undo);
        Edge.no("12: behind a HEARER", () -> {
            PledgeWindow x = Towns.some();
            x.hearer(0, 1);
            return x;
        }, PledgeWindow::undo);
        Edge.no("12: behind a BUYER", () -> {
            PledgeWindow x = Towns.some();
            x.buyer(0);
            return x;
        }, PledgeWindow::undo);
        PledgeWindow x = Towns.some();
        x.seen(0, 0);
        x.note(0, 1, 0, 0);
        x.mark(0, 1, 0, 0);
        x.type(32);
        x.clear();
        x.forget(0);
        x.redeemed(1);
        x.image(0);
        Check.due("12: behind aught else as many as ahead", x.count(10), 5);
        Check.due("12: undo() then", x.undo(), 4);
    }

    private static void undoThenOn() {
        PledgeWindow x = new PledgeWindow();
        for (int n = 0; n < 9; n++) {
            x.days(1);
        }
        for (int n = 0; n < 8; n++) {
            x.undo();
        }
        Check.due("12: all eight undone", x.count(3), 1);
        for (int n = 1; n <= 9; n++) {
            Check.due("12: on again", x.days(2), 1 + 2 * n);
            Check.due("12: that may be undone", x.count(10), Math.min(n, 8));
        }
        for (int n = 1; n <= 8; n++) {
            Check.due("12: back again", x.undo(), 19 - 2 * n);
        }
        Check.due("12: no further", x.undo(), -3);
        Check.due("12: the DAY", x.count(3), 3);
    }

    private static void undoWhatIsNotUndone() {
        PledgeWindow x = Towns.some();
        x.seen(1, 1);
        x.forget(1);
        x.mark(0, 1, 1, 1);
        x.redeemed(10);
        x.type(32);
        x.promise(0, 0);
        x.undo();
        Check.due("12: SEEN stay", x.count(7), 3);
        Check.due("12: NOTES stay away", x.count(8), 0);
        Check.due("12: MARKS stay", x.count(9), 3);
        Check.due("12: THE FRACTION stays", x.part(0), 0);
        Check.due("12: THE TEXT stays", x.count(11), 21);
        Check.due("12: STATUS stays", x.status(0), 1);
        Check.due("12: IMAGE 1 stays", x.from(1), 1);
    }

    // ---- promises 13 to 15

    private static void ofPromises() {
        Edge.asks("13: PROMISE 0", Towns::some, 0, x -> x.of(0, 0));
        Edge.asks("13: PROMISE 4 of 5", Towns::some, 4, x -> x.of(4, 0));
        Edge.bad("13: PROMISE 5 of 5", Towns::some, x -> x.of(5, 0));
        Edge.bad("13: PROMISE -1", Towns::some, x -> x.of(-1, 0));
        Edge.asks("13: PROMISE 6 of 7", Towns::brim, 3, x -> x.of(6, 1));
        Edge.bad("13: PROMISE 7 of 7", Towns::brim, x -> x.of(7, 1));
        Edge.bad("13: PROMISE 0 of none", Towns::bare, x -> x.of(0, 0));
    }

    private static void ofWhat() {
        int[] due = {2, 9, 4, 0, 9, 19};
        for (int what = 0; what < 6; what++) {
            int asked = what;
            Edge.asks("13: of(3, " + what + ")", Towns::some, due[what], x -> x.of(3, asked));
        }
        Edge.bad("13: of(3, -1)", Towns::some, x -> x.of(3, -1));
        Edge.bad("13: of(3, 6)", Towns::some, x -> x.of(3, 6));
    }

    private static void ofPlaces() {
        PledgeWindow x = new PledgeWindow();
        for (int n = 0; n < 7; n++) {
            x.promise(0, 5);
        }
        for (int n = 0; n < 4; n++) {
            x.hearer(0, 5);
        }
        for (int n = 0; n < 3; n++) {
            x.buyer(300);
            Check.due("13: IN THE WINDOW", x.of(n, 3), 0);
            x.buys(n, n);
            Check.due("13: HELD by " + n, x.of(n, 3), 1 + n);
        }
        for (int n = 0; n < 4; n++) {
            x.buys(2, n + 3);
            x.keeps(n + 3, n);
            Check.due("13: KEPT to " + n, x.of(n + 3, 3), 10 + n);
        }
        List<Integer> kept = List.of(x.about(0, 2), x.about(1, 2), x.about(2, 2), x.about(3, 2));
        Check.holds("14: KEPT to each, as bits: " + kept, kept.equals(List.of(8, 16, 32, 64)));
        List<Integer> held = List.of(x.purse(0, 1), x.purse(1, 1), x.purse(2, 1));
        Check.holds("15: HELD by each, as bits: " + held, held.equals(List.of(1, 2, 4)));
    }

    private static void ofWorn() {
        PledgeWindow x = onDay(9998);
        Check.due("13: lain as long as may be told", x.of(0, 2), 9998);
        x.days(1);
        Check.due("13: the most", x.of(0, 2), 9999);
        x.days(1);
        Check.due("13: no more", x.of(0, 2), 9999);
        Check.due("13: GOLD is 5 more at most", x.of(0, 4), 10);
        Check.due("13: its PRICE", x.of(0, 5), 21);
        x.buys(0, 0);
        Check.due("13: HELD, as GOOD as ever", x.of(0, 4), 10);
        Check.due("13: its PRICE is told still", x.of(0, 5), 21);
    }

    private static void aboutHearers() {
        int[] due = {5, 7, 1};
        for (int what = 0; what < 3; what++) {
            int asked = what;
            Edge.asks("14: about(1, " + what + ")", Towns::some, due[what], x -> x.about(1, asked));
        }
        Edge.asks("14: nothing KEPT", Towns::some, 0, x -> x.about(0, 2));
        Edge.bad("14: about(1, -1)", Towns::some, x -> x.about(1, -1));
        Edge.bad("14: about(1, 3)", Towns::some, x -> x.about(1, 3));
        Edge.bad("14: HEARER 2 of 2", Towns::some, x -> x.about(2, 0));
        Edge.bad("14: HEARER -1", Towns::some, x -> x.about(-1, 0));
        Edge.asks("14: HEARER 3 of 4", Towns::brim, 64, x -> x.about(3, 2));
        Edge.bad("14: HEARER 4 of 4", Towns::brim, x -> x.about(4, 2));
        Edge.bad("14: HEARER 0 of none", Towns::bare, x -> x.about(0, 0));
    }

    private static void purseOfBuyers() {
        Edge.asks("15: purse(1, 0)", Towns::some, 16, x -> x.purse(1, 0));
        Edge.asks("15: purse(1, 1)", Towns::some, 2, x -> x.purse(1, 1));
        Edge.bad("15: purse(1, -1)", Towns::some, x -> x.purse(1, -1));
        Edge.bad("15: purse(1, 2)", Towns::some, x -> x.purse(1, 2));
        Edge.bad("15: BUYER 2 of 2", Towns::some, x -> x.purse(2, 0));
        Edge.bad("15: BUYER -1", Towns::some, x -> x.purse(-1, 0));
        Edge.asks("15: BUYER 2 of 3", Towns::brim, 29, x -> x.purse(2, 0));
        Edge.bad("15: BUYER 3 of 3", Towns::brim, x -> x.purse(3, 0));
        Edge.bad("15: BUYER 0 of none", Towns::bare, x -> x.purse(0, 0));
        // KEPT is HELD no more
        PledgeWindow x = Towns.some();
        x.keeps(1, 0);
        Check.due("15: HELD no more", x.purse(1, 1), 0);
    }
}
