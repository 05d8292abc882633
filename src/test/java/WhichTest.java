/** Promises 23 to 35: which it was, of what kind, and what else may be asked. */
public final class WhichTest {
    private WhichTest() {
    }

    public static void main(String[] args) {
        seen();
        which();
        tell();
        note();
        mark();
        forget();
        is();
        look();
        kinds();
        ask();
        bids();
        bidsOfAllJoys();
        bidsBad();
        redeemed();
        years();
        yearsBesideTheTown();
        Check.end();
    }

    private static void seen() {
        PledgeWindow x = new PledgeWindow();
        Check.bad("seen(-1, 0)", x, () -> x.seen(-1, 0));
        Check.bad("seen(100, 0)", x, () -> x.seen(100, 0));
        Check.bad("seen(0, -1)", x, () -> x.seen(0, -1));
        Check.bad("seen(0, 31)", x, () -> x.seen(0, 31));
        Check.due("seen(0, 0)", x.seen(0, 0), 1);
        Check.due("seen(99, 30)", x.seen(99, 30), 2);
        Check.due("seen(99, 30) again", x.seen(99, 30), 3);
        x.seen(1, 1);
        Check.due("the fifth", x.seen(2, 2), 5);
        Check.full("the sixth", x, () -> x.seen(2, 2));
        Check.bad("the sixth, a bad one", x, () -> x.seen(2, 31));
        Check.due("count(7)", x.count(7), 5);
        Check.due("which() of no PROMISE", x.which(), 0);
    }

    private static void which() {
        PledgeWindow x = new PledgeWindow();
        Check.asks("which() of nothing", x, 0, x::which);
        x.promise(0, 6);
        x.promise(1, 5);
        x.promise(2, 8);
        x.promise(5, 3);
        x.promise(4, 3);
        Check.asks("all by none", x, 31, x::which);
        x.days(50);
        x.buyer(99);
        x.hearer(0, 1);
        x.buys(0, 0);
        x.keeps(0, 0);
        Check.asks("wherever they are", x, 31, x::which);
        x.seen(10, 6);
        // 6; 5 and 1; 8 less 2; twice 3 and 1; 3 and 3
        Check.asks("6 GOOD behind 10", x, 1 + 2 + 4 + 16, x::which);
        x.seen(0, 6);
        Check.asks("and new", x, 1, x::which);
        x.seen(0, 5);
        Check.asks("none so", x, 0, x::which);
        x.forget(0);
        x.seen(99, 10);
        Check.asks("behind 99", x, 2, x::which);
    }

    private static void tell() {
        PledgeWindow x = new PledgeWindow();
        Check.asks("tell() of nothing", x, -1, x::tell);
        x.promise(0, 5);
        Check.asks("of one", x, 0, x::tell);
        x.promise(1, 5);
        Check.asks("PLAIN and GOLD", x, 10, x::tell);
        x.promise(2, 5);
        Check.asks("and TIN", x, 10, x::tell);
        x.promise(0, 5);
        Check.asks("two alike for ever", x, 10, x::tell);
        x.seen(0, 5);
        x.seen(99, 10);
        Check.asks("of one that is left", x, 0, x::tell);
        x.seen(99, 9);
        Check.asks("of none that is left", x, -1, x::tell);
        PledgeWindow y = new PledgeWindow();
        y.promise(2, 7);
        y.promise(3, 7);
        y.days(20);
        Check.due("TIN and CHILD'S, on the last DAY", y.tell(), 30);
        PledgeWindow z = new PledgeWindow();
        z.promise(2, 8);
        z.promise(3, 8);
        Check.due("TIN and CHILD'S, beyond it", z.tell(), 0);
        PledgeWindow w = new PledgeWindow();
        w.promise(4, 1);
        w.promise(0, 4);
        w.promise(5, 2);
        // new: 0, 4, 4; behind 7: 4, 4, 4; behind 10: 4, 4, 6
        Check.due("the least of like ones", w.tell(), 0);
        PledgeWindow v = new PledgeWindow();
        for (int p = 0; p < 7; p++) {
            v.promise(0, 5);
            Check.due("all alike for ever", v.tell(), 0);
        }
    }

    private static void note() {
        PledgeWindow x = new PledgeWindow();
        Check.bad("note of none", x, () -> x.note(0, 1, 0, 0));
        x.promise(0, 5);
        x.promise(0, 5);
        Check.bad("note(2, ..)", x, () -> x.note(2, 1, 0, 0));
        Check.bad("note(-1, ..)", x, () -> x.note(-1, 1, 0, 0));
        Check.bad("v 0", x, () -> x.note(0, 0, 0, 0));
        Check.bad("v 10", x, () -> x.note(0, 10, 0, 0));
        Check.bad("d -1", x, () -> x.note(0, 1, -1, 0));
        Check.bad("d 100", x, () -> x.note(0, 1, 100, 0));
        Check.bad("x -1", x, () -> x.note(0, 1, 0, -1));
        Check.bad("x 31", x, () -> x.note(0, 1, 0, 31));
        Check.due("the least", x.note(0, 1, 0, 0), 1);
        Check.due("the most", x.note(1, 9, 99, 30), 2);
        for (int n = 3; n <= 6; n++) {
            Check.due("note " + n, x.note(0, 1, 0, 0), n);
        }
        Check.full("a 7th", x, () -> x.note(0, 1, 0, 0));
        Check.bad("a 7th, a bad one", x, () -> x.note(2, 1, 0, 0));
        Check.due("count(8)", x.count(8), 6);
    }

    private static void mark() {
        PledgeWindow x = new PledgeWindow();
        Check.bad("mark of none", x, () -> x.mark(0, 1, 0, 0));
        x.hearer(0, 5);
        x.hearer(0, 5);
        Check.bad("mark(2, ..)", x, () -> x.mark(2, 1, 0, 0));
        Check.bad("mark(-1, ..)", x, () -> x.mark(-1, 1, 0, 0));
        Check.bad("w 0", x, () -> x.mark(0, 0, 0, 0));
        Check.bad("w 10", x, () -> x.mark(0, 10, 0, 0));
        Check.bad("g -1", x, () -> x.mark(0, 1, -1, 0));
        Check.bad("g 31", x, () -> x.mark(0, 1, 31, 0));
        Check.bad("x -1", x, () -> x.mark(0, 1, 0, -1));
        Check.bad("x 21", x, () -> x.mark(0, 1, 0, 21));
        Check.due("the least", x.mark(0, 1, 0, 0), 1);
        Check.due("the most", x.mark(1, 9, 30, 20), 2);
        for (int n = 3; n <= 6; n++) {
            Check.due("mark " + n, x.mark(0, 1, 0, 0), n);
        }
        Check.full("a 7th", x, () -> x.mark(0, 1, 0, 0));
        Check.bad("a 7th, a bad one", x, () -> x.mark(2, 1, 0, 0));
        Check.due("count(9)", x.count(9), 6);
    }

    private static void forget() {
        PledgeWindow x = new PledgeWindow();
        x.promise(0, 5);
        x.hearer(0, 5);
        for (int what = 0; what <= 2; what++) {
            Check.due("forget(" + what + ") of none", x.forget(what), 0);
        }
        x.seen(0, 5);
        x.note(0, 5, 0, 5);
        x.note(0, 5, 0, 5);
        x.mark(0, 5, 5, 6);
        x.mark(0, 5, 5, 6);
        x.mark(0, 5, 5, 6);
        Check.bad("forget(-1)", x, () -> x.forget(-1));
        Check.bad("forget(3)", x, () -> x.forget(3));
        Check.due("forget(1)", x.forget(1), 2);
        Check.due("SEEN then", x.count(7), 1);
        Check.due("NOTES then", x.count(8), 0);
        Check.due("MARKS then", x.count(9), 3);
        Check.due("forget(0)", x.forget(0), 1);
        Check.due("SEEN then", x.count(7), 0);
        Check.due("MARKS then", x.count(9), 3);
        Check.due("forget(2)", x.forget(2), 3);
        Check.due("MARKS then", x.count(9), 0);
        Check.due("is(0) of none", x.is(0), 63);
        Check.due("a NOTE behind it", x.note(0, 5, 0, 5), 1);
    }

    private static void is() {
        PledgeWindow x = new PledgeWindow();
        Check.bad("is(0) of none", x, () -> x.is(0));
        x.promise(0, 1);
        x.promise(0, 1);
        Check.asks("by no NOTE", x, 63, () -> x.is(0));
        x.note(0, 9, 5, 8);
        // TIN and CHILD'S of 9 have lost 1 by then
        Check.asks("by one", x, 4 + 8, () -> x.is(0));
        Check.asks("the other one", x, 63, () -> x.is(1));
        x.note(1, 4, 7, 7);
        Check.asks("a SHIP", x, 16, () -> x.is(1));
        Check.asks("by its own NOTES", x, 12, () -> x.is(0));
        x.note(0, 1, 99, 0);
        Check.asks("by two", x, 4, () -> x.is(0));
        x.note(0, 1, 99, 2);
        Check.asks("by none", x, 0, () -> x.is(0));
        x.note(1, 9, 99, 25);
        Check.asks("none of the other", x, 0, () -> x.is(1));
        x.forget(1);
        x.note(1, 9, 99, 25);
        Check.asks("an ORDINATION", x, 32, () -> x.is(1));
        x.forget(1);
        x.note(1, 3, 0, 3);
        Check.asks("new", x, 1 + 2 + 4 + 8, () -> x.is(1));
        x.note(1, 3, 10, 4);
        Check.asks("GOLD", x, 2, () -> x.is(1));
        Check.bad("is(2)", x, () -> x.is(2));
        Check.bad("is(-1)", x, () -> x.is(-1));
    }

    private static void look() {
        PledgeWindow x = new PledgeWindow();
        Check.bad("look(0) of none", x, () -> x.look(0));
        x.promise(0, 9);
        x.promise(0, 2);
        // of 9, behind 40: 9, 13, 1, 2, 12, 25; ahead of that two or more are alike
        Check.asks("of all KINDS", x, 40, () -> x.look(0));
        x.note(0, 9, 5, 8);
        Check.asks("TIN or CHILD'S, of WORTH 9", x, 40, () -> x.look(0));
        x.note(1, 9, 5, 8);
        Check.asks("TIN or CHILD'S, of WORTH 2", x, 5, () -> x.look(1));
        x.note(1, 1, 99, 0);
        Check.asks("TIN", x, 0, () -> x.look(1));
        x.note(1, 1, 99, 1);
        Check.asks("no KIND", x, -1, () -> x.look(1));
        x.forget(1);
        x.note(0, 5, 0, 5);
        // PLAIN, GOLD, TIN, CHILD'S of 9: two alike at least until day 40, and 9, 13, 1, 2 then
        Check.asks("four KINDS", x, 40, () -> x.look(0));
        x.note(0, 9, 10, 9);
        Check.asks("PLAIN", x, 0, () -> x.look(0));
        Check.bad("look(2)", x, () -> x.look(2));
        Check.bad("look(-1)", x, () -> x.look(-1));
    }

    private static void kinds() {
        PledgeWindow x = new PledgeWindow();
        Check.bad("kinds(0) of none", x, () -> x.kinds(0));
        x.hearer(0, 1);
        x.hearer(0, 1);
        Check.asks("by no MARK", x, 63, () -> x.kinds(0));
        x.mark(0, 5, 4, 5);
        Check.asks("by one", x, 1 + 2 + 4 + 16, () -> x.kinds(0));
        Check.asks("the other one", x, 63, () -> x.kinds(1));
        x.mark(0, 9, 4, 1);
        Check.asks("no MOTHER", x, 1 + 2 + 16, () -> x.kinds(0));
        x.mark(0, 5, 6, 5);
        Check.asks("no BRIDE", x, 1 + 16, () -> x.kinds(0));
        x.mark(0, 3, 3, 0);
        Check.asks("DEAF", x, 16, () -> x.kinds(0));
        x.mark(1, 5, 5, 4);
        Check.asks("SHY", x, 8, () -> x.kinds(1));
        x.mark(1, 5, 5, 12);
        Check.asks("none", x, 0, () -> x.kinds(1));
        x.forget(2);
        x.mark(1, 5, 5, 12);
        Check.asks("a KEEPER", x, 32, () -> x.kinds(1));
        x.mark(0, 1, 30, 3);
        Check.asks("a MOTHER", x, 4, () -> x.kinds(0));
        Check.bad("kinds(2)", x, () -> x.kinds(2));
        Check.bad("kinds(-1)", x, () -> x.kinds(-1));
    }

    private static void ask() {
        PledgeWindow x = new PledgeWindow();
        Check.bad("ask(0) of none", x, () -> x.ask(0));
        x.hearer(0, 1);
        x.hearer(0, 8);
        x.hearer(0, 9);
        for (int h = 0; h < 3; h++) {
            x.mark(h, 5, 6, 5);
        }
        // PLAIN, MOTHER, DEAF of 6 for 5; of 0 for 1: 5, 5, 0; of 4 for 1: 3, 3, 3; of 6: 1, 3, 1
        Check.asks("three KINDS, want 1", x, 0, () -> x.ask(0));
        // of 3 for 8: 1, 3, 0
        Check.asks("three KINDS, want 8", x, 3, () -> x.ask(1));
        Check.asks("three KINDS, want 9", x, 0, () -> x.ask(2));
        x.forget(2);
        x.mark(0, 9, 4, 1);
        // PLAIN, BRIDE, SHY, DEAF: for 1, of 0: 5, 5, 3, 0; of 1: 6, 8, 4, 0
        Check.asks("four KINDS, want 1", x, 1, () -> x.ask(0));
        x.mark(0, 1, 30, 3);
        Check.asks("no KIND", x, -1, () -> x.ask(0));
        x.mark(1, 1, 30, 3);
        Check.asks("a MOTHER", x, 0, () -> x.ask(1));
        x.mark(2, 1, 1, 4);
        Check.asks("one who is SHY", x, 0, () -> x.ask(2));
        Check.bad("ask(3)", x, () -> x.ask(3));
        Check.bad("ask(-1)", x, () -> x.ask(-1));
    }

    private static void bidsAre(PledgeWindow x, int p, int h, int... due) {
        Check.asks("bids for " + p + " to " + h, x, due.length, () -> x.bids(0, 1, p, h, -1));
        Check.due("the other way round", x.bids(1, 0, p, h, -1), due.length);
        for (int k = 0; k < due.length; k++) {
            int asked = k;
            Check.asks("pair " + k, x, due[k], () -> x.bids(0, 1, p, h, asked));
        }
        Check.asks("one more", x, -5, () -> x.bids(0, 1, p, h, due.length));
        Check.asks("many more", x, -5, () -> x.bids(0, 1, p, h, Integer.MAX_VALUE));
    }

    private static void bids() {
        PledgeWindow x = new PledgeWindow();
        x.promise(0, 2);
        x.promise(0, 1);
        x.promise(0, 9);
        x.hearer(0, 7);
        x.hearer(5, 9);
        x.buyer(0);
        x.buyer(0);
        // JOY 0: any bid that costs nothing rests against any such one
        bidsAre(x, 1, 0, 0, 1, 2, 10, 11, 12, 20, 21, 22);
        // JOY 1: as told by who pays 1 at most, and has nothing of it then
        bidsAre(x, 0, 0, 20, 21, 22, 23, 24, 25, 33, 34, 35, 43, 44, 45, 53, 54, 55);
        // JOY 12: each would always bid more
        bidsAre(x, 2, 1, 99);
        x.buyer(999);
        x.buys(2, 2);
        x.keeps(2, 0);
        bidsAre(x, 2, 1, 99);
    }

    /** What bidder `who` (0: a) gets by bids i of a and j of b, as the document says it. */
    private static int gets(int who, int joy, int i, int j) {
        int winner = j > i ? 1 : 0;
        int paid = winner == 1 ? j : i;
        return who == winner ? joy - paid / 3 : paid > 5 ? 1 : 0;
    }

    private static int[] restingPairs(int joy) {
        int[] pairs = new int[100];
        int found = 0;
        for (int pair = 0; pair < 100; pair++) {
            int i = pair / 10;
            int j = pair % 10;
            boolean rests = true;
            for (int n = 0; n < 10; n++) {
                rests &= gets(0, joy, n, j) <= gets(0, joy, i, j);
                rests &= gets(1, joy, i, n) <= gets(1, joy, i, j);
            }
            if (rests) {
                pairs[found] = pair;
                found++;
            }
        }
        return java.util.Arrays.copyOf(pairs, found);
    }

    /** JOYS from 0 to a KEEPER's 12, by WORTHS and KINDS of HEARERS. */
    private static void bidsOfAllJoys() {
        boolean[] met = new boolean[13];
        for (int kind = 0; kind < 6; kind++) {
            for (int worth = 3; worth <= 9; worth++) {
                for (int want = 1; want <= 5; want += 4) {
                    PledgeWindow x = new PledgeWindow();
                    x.hearer(kind, want);
                    x.promise(0, worth);
                    x.buyer(0);
                    x.buyer(0);
                    met[x.joy(0, 0)] = true;
                    bidsAre(x, 0, 0, restingPairs(x.joy(0, 0)));
                }
            }
        }
        for (int joy : new int[] {0, 1, 2, 3, 4, 5, 6, 7, 8, 10, 12}) {
            Check.holds("no JOY of " + joy + " was bid for", met[joy]);
        }
    }

    private static void bidsBad() {
        PledgeWindow x = new PledgeWindow();
        Check.refused("of nothing", x, 0, -10, () -> x.bids(0, 1, 0, 0, -1));
        x.promise(0, 5);
        x.hearer(0, 5);
        x.buyer(5);
        x.buyer(5);
        Check.refused("alike", x, 0, -10, () -> x.bids(1, 1, 0, 0, -1));
        Check.refused("a 2", x, 0, -10, () -> x.bids(2, 1, 0, 0, -1));
        Check.refused("a -1", x, 0, -10, () -> x.bids(-1, 1, 0, 0, -1));
        Check.refused("b 2", x, 0, -10, () -> x.bids(0, 2, 0, 0, -1));
        Check.refused("b -1", x, 0, -10, () -> x.bids(0, -1, 0, 0, -1));
        Check.refused("p 1", x, 0, -10, () -> x.bids(0, 1, 1, 0, -1));
        Check.refused("p -1", x, 0, -10, () -> x.bids(0, 1, -1, 0, -1));
        Check.refused("h 1", x, 0, -10, () -> x.bids(0, 1, 0, 1, -1));
        Check.refused("h -1", x, 0, -10, () -> x.bids(0, 1, 0, -1, -1));
        Check.refused("k -2", x, 0, -10, () -> x.bids(0, 1, 0, 0, -2));
    }

    private static void mean(PledgeWindow x, int c, long above, long below) {
        Check.due("redeemed(" + c + ")", x.redeemed(c), 1);
        Check.asks("above", x, above, () -> x.part(0));
        Check.asks("below", x, below, () -> x.part(1));
    }

    private static void redeemed() {
        PledgeWindow x = new PledgeWindow();
        mean(x, 5, 0, 1);
        Check.bad("redeemed(-1)", x, () -> x.redeemed(-1));
        Check.bad("redeemed(11)", x, () -> x.redeemed(11));
        x.promise(0, 5);
        x.promise(0, 3);
        x.promise(0, 1);
        x.buyer(99);
        x.hearer(0, 1);
        // PRICES 11, 7, 3
        mean(x, 0, 21, 1);
        mean(x, 1, 189, 10);
        mean(x, 2, 84, 5);
        mean(x, 5, 21, 2);
        mean(x, 9, 21, 10);
        mean(x, 10, 0, 1);
        x.buys(0, 0);
        mean(x, 5, 5, 1);
        x.keeps(0, 0);
        mean(x, 3, 7, 1);
        x.buys(0, 1);
        x.buys(0, 2);
        mean(x, 3, 0, 1);
        x.undo();
        mean(x, 3, 21, 10);
        Check.bad("redeemed(11)", x, () -> x.redeemed(11));
        Check.due("THE FRACTION stays", x.part(0), 21);
    }

    private static PledgeWindow town() {
        PledgeWindow x = new PledgeWindow();
        int[] kinds = {0, 2, 0, 0, 1, 4, 0};
        int[] worths = {5, 9, 1, 1, 5, 2, 3};
        for (int p = 0; p < 7; p++) {
            x.promise(kinds[p], worths[p]);
        }
        x.hearer(0, 5);
        x.hearer(0, 3);
        x.hearer(5, 5);
        x.buyer(99);
        return x;
    }

    private static void yearsAre(PledgeWindow x, int seed, int... due) {
        for (int n = 0; n < due.length; n++) {
            int asked = n;
            Check.asks("years(" + seed + ", " + n + ")", x, due[n], () -> x.years(seed, asked));
        }
    }

    private static void years() {
        PledgeWindow x = town();
        // by 0: 0 to 0, 6 to 1, 6 to 0, 4 to 2, 5 to 2, 1 to 1, 1 to 2, 1 to 1
        yearsAre(x, 0, 0, 6, 12, 12, 24, 30, 31, 31, 31);
        // by 999999: 2 to 2, 4 to 1, 6 to 3, 6 to 3, 5 to 0, 3 to 1, 4 to 3, 1 to 2
        yearsAre(x, 999999, 0, 6, 10, 10, 10, 11, 15, 15, 21);
        x.days(3);
        yearsAre(x, 0, 0, 6, 12, 12, 24, 36, 37, 37, 37);
        Check.bad("years(-1, 0)", x, () -> x.years(-1, 0));
        Check.bad("years(1000000, 0)", x, () -> x.years(1000000, 0));
        Check.bad("years(0, -1)", x, () -> x.years(0, -1));
        Check.bad("years(0, 61)", x, () -> x.years(0, 61));
        PledgeWindow y = new PledgeWindow();
        yearsAre(y, 0, 0, 0, 0);
        y.promise(0, 5);
        yearsAre(y, 0, 0, 0, 0);
        y.hearer(0, 5);
        Check.asks("60 DAYS", y, 6, () -> y.years(0, 60));
    }

    private static void yearsBesideTheTown() {
        PledgeWindow x = town();
        x.buys(0, 0);
        x.keeps(0, 0);
        x.buys(0, 6);
        // 6 at first; 0 and 6 are not IN THE WINDOW
        yearsAre(x, 0, 6, 6, 6, 6, 18, 24, 25);
        PledgeWindow y = new PledgeWindow();
        for (int i = 0; i < 101; i++) {
            y.days(99);
        }
        y.promise(0, 1);
        y.promise(2, 9);
        y.hearer(2, 9);
        y.hearer(0, 3);
        Check.due("the last DAY", y.count(3), 9999);
        // TIN of 9 has lost 1 by the sixth DAY, and so makes JOY to who wants 3
        yearsAre(y, 0, 0, 3, 3, 3, 3, 3, 4);
    }
}
