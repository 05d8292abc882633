import java.util.function.Supplier;

/** The boundaries that promises 23 to 35 name: hints, what parts them, bids, odds, years. */
public final class EdgeWhichTest {
    private EdgeWhichTest() {
    }

    public static void main(String[] args) {
        seenNumbers();
        seenFive();
        whichByNone();
        whichByAll();
        tellFirstAndLast();
        tellFewestOfTheMost();
        tellOfThese();
        tellNone();
        noteNumbers();
        noteSix();
        markNumbers();
        markSix();
        forgetWhat();
        forgetHowMany();
        isByNotesOfOne();
        isAllAndNone();
        lookFirstAndLast();
        lookAtItsOwnWorth();
        lookNone();
        kindsByMarksOfOne();
        kindsAllAndNone();
        askFirstOfLikeOnes();
        askItsOwnWant();
        askNone();
        bidsFromNoneToNine();
        bidsAlikeAreFirsts();
        bidsAboveFive();
        bidsThird();
        bidsHowManyWhich();
        bidsOfAnything();
        bidsBad();
        redeemedNoneToTen();
        redeemedLowestTerms();
        redeemedOfTheWindow();
        yearsSeeds();
        yearsDays();
        yearsAheadOfEachDay();
        yearsCut();
        yearsIfThere();
        yearsJoyOfAll();
        yearsBeyondTheLastDay();
        Check.end();
    }

    // ---- promises 23 to 25

    private static void seenNumbers() {
        PledgeWindow x = new PledgeWindow();
        Check.due("23: d 0, x 0", x.seen(0, 0), 1);
        Check.due("23: d 99, x 30", x.seen(99, 30), 2);
        Check.due("23: told as they came", x.digest(),
                Check.digest(0, 0, 0, 0, 0, 0, 0, 2, 0, 0, 0, 0, 0, 0, 99, 30, 0, 1));
        Edge.bad("23: d -1", Towns::some, y -> y.seen(-1, 5));
        Edge.bad("23: d 100", Towns::some, y -> y.seen(100, 5));
        Edge.bad("23: x -1", Towns::some, y -> y.seen(5, -1));
        Edge.bad("23: x 31", Towns::some, y -> y.seen(5, 31));
    }

    private static PledgeWindow withSeen(int many) {
        PledgeWindow x = new PledgeWindow();
        x.promise(0, 5);
        x.promise(0, 6);
        for (int n = 0; n < many; n++) {
            x.seen(n, 5);
        }
        return x;
    }

    private static void seenFive() {
        for (int many = 0; many < 5; many++) {
            Check.due("23: the next behind " + many, withSeen(many).seen(9, 5), many + 1);
        }
        Edge.full("23: a 6th", () -> withSeen(5), x -> x.seen(9, 5));
        Edge.bad("23: a 6th, d 100: BAD is the first of", () -> withSeen(5), x -> x.seen(100, 5));
        PledgeWindow x = withSeen(4);
        x.seen(0, 6);
        Check.due("24: the 5th counts", x.which(), 0);
        PledgeWindow y = withSeen(5);
        y.seen(0, 6);
        Check.due("24: a 6th does not", y.which(), 1);
    }

    private static void whichByNone() {
        Edge.asks("24: no PROMISE", Towns::bare, 0, PledgeWindow::which);
        PledgeWindow x = new PledgeWindow();
        for (int p = 0; p < 7; p++) {
            x.promise(p % 6, 9 - p);
            Check.due("24: all, none being SEEN", x.which(), (2 << p) - 1);
        }
        x.seen(0, 30);
        Check.due("24: none is 30 GOOD", x.which(), 0);
        x.forget(0);
        Check.due("24: all again", x.which(), 127);
        x.seen(0, 0);
        Check.due("24: only a SHIP that is new is 0 GOOD", x.which(), 16);
    }

    private static void whichByAll() {
        PledgeWindow x = new PledgeWindow();
        x.promise(0, 6);
        x.promise(1, 6);
        x.promise(2, 6);
        x.promise(1, 5);
        x.seen(0, 6);
        Check.due("24: by one", x.which(), 7);
        x.seen(9, 6);
        Check.due("24: behind 9 GOLD is as it was", x.which(), 3);
        x.seen(10, 7);
        Check.due("24: behind 10 it is 1 better", x.which(), 2);
        x.seen(10, 6);
        Check.due("24: both at once can not be", x.which(), 0);
        // by KIND and WORTH alone: neither where it is counts, nor how long it has lain
        PledgeWindow y = Towns.some();
        y.forget(0);
        y.seen(0, 5);
        Check.due("24: a KEPT one", y.which(), 1);
        y.days(99);
        Check.due("24: whatever the DAY", y.which(), 1);
        y.forget(0);
        y.seen(0, 6);
        Check.due("24: a HELD one", y.which(), 2);
    }

    private static PledgeWindow two(int kind, int worth, int other, int otherWorth) {
        PledgeWindow x = new PledgeWindow();
        x.promise(kind, worth);
        x.promise(other, otherWorth);
        return x;
    }

    private static void tellFirstAndLast() {
        Check.due("25: unlike at once", two(0, 5, 0, 6).tell(), 0);
        Check.due("25: a SHIP and what is as GOOD as it from 7 on", two(0, 8, 4, 5).tell(), 0);
        Check.due("25: TIN from 5 on", two(0, 5, 2, 5).tell(), 5);
        Check.due("25: GOLD from 10 on", two(0, 5, 1, 5).tell(), 10);
        Check.due("25: CHILD'S from 25 on", two(2, 6, 3, 6).tell(), 25);
        Check.due("25: CHILD'S from 30 on, the last d", two(2, 7, 3, 7).tell(), 30);
        Check.due("25: CHILD'S from 35 on, beyond: like ones, the least", two(2, 8, 3, 8).tell(), 0);
        Check.due("25: alike for ever", two(0, 5, 0, 5).tell(), 0);
        PledgeWindow x = two(2, 7, 3, 7);
        x.days(99);
        Check.due("25: DAYS gone by are none of it", x.tell(), 30);
    }

    private static void tellFewestOfTheMost() {
        PledgeWindow x = new PledgeWindow();
        x.promise(0, 5);
        x.promise(0, 5);
        x.promise(1, 5);
        x.promise(1, 5);
        // four alike until 10, two and two then
        Check.due("25: 4 or 2", x.tell(), 10);
        x.promise(0, 9);
        Check.due("25: 4 or 2 beside another", x.tell(), 10);
        x.promise(1, 4);
        // behind 10 GOLD of 4 is a third one of 5, behind 20 it is alone
        Check.due("25: 4, 3, or 2", x.tell(), 20);
        PledgeWindow y = new PledgeWindow();
        for (int p = 0; p < 7; p++) {
            y.promise(0, 5);
        }
        Check.due("25: seven alike", y.tell(), 0);
        PledgeWindow z = new PledgeWindow();
        for (int p = 0; p < 6; p++) {
            z.promise(0, 5);
        }
        z.promise(2, 5);
        Check.due("25: seven, or six", z.tell(), 5);
    }

    private static void tellOfThese() {
        PledgeWindow x = new PledgeWindow();
        x.promise(0, 5);
        x.promise(2, 5);
        x.promise(1, 5);
        Check.due("25: of all three", x.tell(), 10);
        x.seen(10, 3);
        Check.due("25: of one that is so", x.tell(), 0);
        x.forget(0);
        x.seen(5, 5);
        Check.due("25: of two that are so", x.tell(), 10);
        x.forget(0);
        x.seen(0, 5);
        Check.due("25: of all that are so", x.tell(), 10);
        PledgeWindow some = Towns.some();
        some.forget(0);
        some.promise(0, 5);
        some.seen(0, 5);
        some.seen(99, 5);
        Check.due("25: of one that is KEPT, and one like it", some.tell(), 0);
    }

    private static void tellNone() {
        Edge.asks("25: no PROMISE is there", Towns::bare, -1, PledgeWindow::tell);
        PledgeWindow x = two(0, 5, 1, 5);
        x.seen(0, 6);
        Check.due("25: none is so", x.tell(), -1);
        x.forget(0);
        x.seen(10, 5);
        Check.due("25: one is so", x.tell(), 0);
    }

    // ---- promises 26 to 28

    private static void noteNumbers() {
        PledgeWindow x = new PledgeWindow();
        x.promise(0, 5);
        Check.due("26: v 1, d 0, x 0", x.note(0, 1, 0, 0), 1);
        Check.due("26: v 9, d 99, x 30", x.note(0, 9, 99, 30), 2);
        Check.due("26: told as they came", x.digest(), Check.digest(1, 0, 0, 0, 1, 0, 0, 0, 2, 0, 0, 0,
                0, 5, 0, 0, 0, 1, 0, 0, 0, 9, 99, 30, 0, 1));
        Edge.bad("26: v 0", Towns::some, y -> y.note(1, 0, 5, 5));
        Edge.bad("26: v 10", Towns::some, y -> y.note(1, 10, 5, 5));
        Edge.bad("26: d -1", Towns::some, y -> y.note(1, 5, -1, 5));
        Edge.bad("26: d 100", Towns::some, y -> y.note(1, 5, 100, 5));
        Edge.bad("26: x -1", Towns::some, y -> y.note(1, 5, 5, -1));
        Edge.bad("26: x 31", Towns::some, y -> y.note(1, 5, 5, 31));
        Edge.bad("26: PROMISE 5 of 5", Towns::some, y -> y.note(5, 5, 5, 5));
        Edge.bad("26: PROMISE -1", Towns::some, y -> y.note(-1, 5, 5, 5));
        Edge.bad("26: PROMISE 0 of none", Towns::bare, y -> y.note(0, 5, 5, 5));
        Check.due("26: PROMISE 4 of 5", Towns.some().note(4, 5, 5, 5), 2);
    }

    private static PledgeWindow withNotes(int many) {
        PledgeWindow x = new PledgeWindow();
        x.promise(0, 5);
        for (int n = 0; n < many; n++) {
            x.note(0, 5, 0, 5);
        }
        return x;
    }

    private static void noteSix() {
        for (int many = 0; many < 6; many++) {
            Check.due("26: the next behind " + many, withNotes(many).note(0, 5, 0, 5), many + 1);
        }
        Edge.full("26: a 7th", () -> withNotes(6), x -> x.note(0, 5, 0, 5));
        Edge.bad("26: a 7th, x 31: BAD is the first of", () -> withNotes(6), x -> x.note(0, 5, 0, 31));
        Edge.bad("26: a 7th of PROMISE 1: BAD is the first of", () -> withNotes(6),
                x -> x.note(1, 5, 0, 5));
        PledgeWindow x = withNotes(5);
        x.note(0, 5, 99, 5);
        Check.due("29: the 6th counts", x.is(0), 1);
        PledgeWindow y = withNotes(6);
        y.note(0, 5, 99, 5);
        Check.due("29: a 7th does not", y.is(0), 15);
    }

    private static void markNumbers() {
        PledgeWindow x = new PledgeWindow();
        x.hearer(0, 5);
        Check.due("27: w 1, g 0, x 0", x.mark(0, 1, 0, 0), 1);
        Check.due("27: w 9, g 30, x 20", x.mark(0, 9, 30, 20), 2);
        Check.due("27: told as they came", x.digest(), Check.digest(0, 1, 0, 0, 0, 0, 0, 0, 0, 2, 0, 0,
                0, 5, 0, 1, 0, 0, 0, 9, 30, 20, 0, 1));
        Edge.bad("27: w 0", Towns::some, y -> y.mark(1, 0, 5, 5));
        Edge.bad("27: w 10", Towns::some, y -> y.mark(1, 10, 5, 5));
        Edge.bad("27: g -1", Towns::some, y -> y.mark(1, 5, -1, 5));
        Edge.bad("27: g 31", Towns::some, y -> y.mark(1, 5, 31, 5));
        Edge.bad("27: x -1", Towns::some, y -> y.mark(1, 5, 5, -1));
        Edge.bad("27: x 21", Towns::some, y -> y.mark(1, 5, 5, 21));
        Edge.bad("27: HEARER 2 of 2", Towns::some, y -> y.mark(2, 5, 5, 5));
        Edge.bad("27: HEARER -1", Towns::some, y -> y.mark(-1, 5, 5, 5));
        Edge.bad("27: HEARER 0 of none", Towns::bare, y -> y.mark(0, 5, 5, 5));
        Check.due("27: HEARER 1 of 2", Towns.some().mark(1, 5, 5, 5), 3);
    }

    private static PledgeWindow withMarks(int many) {
        PledgeWindow x = new PledgeWindow();
        x.hearer(0, 5);
        for (int n = 0; n < many; n++) {
            x.mark(0, 5, 5, 6);
        }
        return x;
    }

    private static void markSix() {
        for (int many = 0; many < 6; many++) {
            Check.due("27: the next behind " + many, withMarks(many).mark(0, 5, 5, 6), many + 1);
        }
        Edge.full("27: a 7th", () -> withMarks(6), x -> x.mark(0, 5, 5, 6));
        Edge.bad("27: a 7th, x 21: BAD is the first of", () -> withMarks(6), x -> x.mark(0, 5, 5, 21));
        Edge.bad("27: a 7th of HEARER 1: BAD is the first of", () -> withMarks(6),
                x -> x.mark(1, 5, 5, 6));
        PledgeWindow x = withMarks(5);
        x.mark(0, 9, 0, 3);
        Check.due("31: the 6th counts", x.kinds(0), 4);
        PledgeWindow y = withMarks(6);
        y.mark(0, 9, 0, 3);
        Check.due("31: a 7th does not", y.kinds(0), 1 + 4 + 16);
    }

    private static void forgetWhat() {
        int[] there = {2, 1, 2};
        for (int what = 0; what < 3; what++) {
            PledgeWindow x = Towns.some();
            Check.due("28: forget(" + what + ")", x.forget(what), there[what]);
            for (int other = 0; other < 3; other++) {
                Check.due("28: forget(" + what + "), then count(" + (7 + other) + ")",
                        x.count(7 + other), other == what ? 0 : there[other]);
            }
            Check.due("28: what may be undone stays", x.count(10), 5);
        }
        Edge.bad("28: what -1", Towns::some, x -> x.forget(-1));
        Edge.bad("28: what 3", Towns::some, x -> x.forget(3));
    }

    private static void forgetHowMany() {
        for (int what = 0; what < 3; what++) {
            Check.due("28: none", new PledgeWindow().forget(what), 0);
        }
        PledgeWindow x = Towns.brim();
        Check.due("28: five SEEN", x.forget(0), 5);
        Check.due("28: six NOTES", x.forget(1), 6);
        Check.due("28: six MARKS", x.forget(2), 6);
        for (int what = 0; what < 3; what++) {
            Check.due("28: none then", x.forget(what), 0);
        }
        Check.due("28: room again for SEEN", x.seen(1, 1), 1);
        Check.due("28: room again for NOTES", x.note(6, 1, 1, 1), 1);
        Check.due("28: room again for MARKS", x.mark(3, 1, 1, 1), 1);
    }

    // ---- promises 29 and 30

    private static PledgeWindow noted(int worth, int... notes) {
        PledgeWindow x = new PledgeWindow();
        x.promise(0, 1);
        x.promise(0, worth);
        for (int n = 0; n + 2 < notes.length; n += 3) {
            x.note(1, notes[n], notes[n + 1], notes[n + 2]);
        }
        return x;
    }

    private static void isByNotesOfOne() {
        // of WORTH 5, new: 5, 5, 5, 5, 0, 10
        PledgeWindow x = noted(9, 5, 0, 5);
        Check.due("29: by its NOTE", x.is(1), 15);
        Check.due("29: the other one has none", x.is(0), 63);
        Check.due("29: GOLD behind 9", noted(9, 5, 9, 5).is(1), 1 + 2);
        Check.due("29: GOLD behind 10", noted(9, 5, 10, 6).is(1), 2);
        Check.due("29: TIN behind 4", noted(9, 5, 4, 5).is(1), 15);
        Check.due("29: TIN and CHILD'S behind 5", noted(9, 5, 5, 4).is(1), 12);
        Check.due("29: a SHIP behind 6", noted(9, 5, 6, 0).is(1), 16);
        Check.due("29: a SHIP behind 7", noted(9, 5, 7, 8).is(1), 16);
        Check.due("29: an ORDINATION of 9 behind 40", noted(9, 9, 40, 25).is(1), 32);
        Check.due("29: by two", noted(9, 5, 5, 4, 5, 99, 0).is(1), 4);
        Check.due("29: by two", noted(9, 5, 5, 4, 5, 99, 2).is(1), 8);
        Edge.bad("29: PROMISE 5 of 5", Towns::some, y -> y.is(5));
        Edge.bad("29: PROMISE -1", Towns::some, y -> y.is(-1));
        Edge.asks("29: PROMISE 4 of 5", Towns::some, 63, y -> y.is(4));
        Edge.asks("29: PROMISE 1, by its NOTE", Towns::some, 2, y -> y.is(1));
    }

    private static void isAllAndNone() {
        Check.due("29: all KINDS", noted(9).is(1), 63);
        Check.due("29: no KIND", noted(9, 5, 0, 30).is(1), 0);
        Check.due("29: no KIND by both", noted(9, 5, 0, 5, 5, 0, 10).is(1), 0);
        // its own KIND and WORTH are none of it
        Check.due("29: a PLAIN one of 9, noted as a SHIP of 1", noted(9, 1, 6, 0, 1, 7, 4).is(1), 16);
    }

    private static void lookFirstAndLast() {
        // GOLD and ORDINATION of 1 are unlike at once, TIN and CHILD'S of 9 behind 40 at last
        Check.due("30: two KINDS of 9 apart", noted(9, 5, 5, 4).look(1), 40);
        Check.due("30: two KINDS of 8 apart", noted(8, 5, 5, 4).look(1), 35);
        Check.due("30: two KINDS of 1 apart", noted(1, 5, 5, 4).look(1), 0);
        Check.due("30: two KINDS of 2 apart", noted(2, 5, 5, 4).look(1), 5);
        Check.due("30: PLAIN and GOLD of 5", noted(5, 5, 9, 5).look(1), 10);
        Check.due("30: one KIND, a SHIP", noted(5, 5, 7, 8).look(1), 0);
        Check.due("30: one KIND, the last", noted(5, 9, 40, 25).look(1), 0);
        Check.due("30: SHIP and ORDINATION of 3", noted(3, 3, 40, 6).look(1), 0);
        PledgeWindow x = noted(9, 5, 5, 4);
        x.days(99);
        Check.due("30: DAYS gone by are none of it", x.look(1), 40);
    }

    private static void lookAtItsOwnWorth() {
        // of 9 no two KINDS are alike behind 40: 9, 13, 1, 2, 12, 25
        Check.due("30: all KINDS of 9", noted(9).look(1), 40);
        for (int worth = 1; worth <= 9; worth++) {
            Check.due("30: all KINDS of " + worth, noted(worth).look(1), firstDayOfFewest(worth));
        }
        Edge.bad("30: PROMISE 5 of 5", Towns::some, y -> y.look(5));
        Edge.bad("30: PROMISE -1", Towns::some, y -> y.look(-1));
        Edge.asks("30: PROMISE 3 of WORTH 9, by no NOTE", Towns::some, 40, y -> y.look(3));
    }

    /** GOOD of each KIND as the document tells it, by 61 DAYS: the first by which fewest are alike. */
    private static int firstDayOfFewest(int worth) {
        int best = -1;
        int fewest = 7;
        for (int d = 0; d <= 60; d++) {
            int gold = worth + Math.min(d / 10, 5);
            int tin = Math.max(worth - d / 5, 0);
            int most = mostAlike(worth, gold, tin, Math.max(tin, 2), d < 7 ? 0 : worth + 3,
                    Math.min(gold + gold, 25));
            if (most < fewest) {
                fewest = most;
                best = d;
            }
        }
        return best;
    }

    private static int mostAlike(int... values) {
        int most = 0;
        for (int value : values) {
            int alike = 0;
            for (int other : values) {
                alike += other == value ? 1 : 0;
            }
            most = Math.max(most, alike);
        }
        return most;
    }

    private static void lookNone() {
        Check.due("30: no KIND", noted(9, 5, 0, 30).look(1), -1);
        Check.due("30: the other one has all", noted(9, 5, 0, 30).look(0), firstDayOfFewest(1));
        Edge.bad("30: PROMISE 0 of none", Towns::bare, x -> x.look(0));
    }

    // ---- promises 31 and 32

    private static PledgeWindow marked(int want, int... marks) {
        PledgeWindow x = new PledgeWindow();
        x.hearer(0, 1);
        x.hearer(0, want);
        for (int n = 0; n + 2 < marks.length; n += 3) {
            x.mark(1, marks[n], marks[n + 1], marks[n + 2]);
        }
        return x;
    }

    private static void kindsByMarksOfOne() {
        // who WANTS 5, of 5: 6, 8, 6, 4, 6, 12
        PledgeWindow x = marked(9, 5, 5, 6);
        Check.due("31: by his MARK", x.kinds(1), 1 + 4 + 16);
        Check.due("31: the other one has none", x.kinds(0), 63);
        Check.due("31: a BRIDE of w", marked(9, 5, 5, 8).kinds(1), 2);
        Check.due("31: a BRIDE of less", marked(9, 5, 4, 5).kinds(1), 1 + 2 + 4 + 16);
        Check.due("31: a MOTHER of 4 away", marked(9, 9, 5, 3).kinds(1), 4);
        Check.due("31: a MOTHER of 3 away", marked(9, 9, 6, 3).kinds(1), 1 + 2 + 4 + 16);
        Check.due("31: SHY, cut up", marked(9, 5, 6, 4).kinds(1), 8);
        Check.due("31: DEAF of 3", marked(9, 3, 3, 0).kinds(1), 16);
        Check.due("31: DEAF of 4", marked(9, 3, 4, 5).kinds(1), 1 + 4 + 16);
        Check.due("31: a KEEPER", marked(9, 5, 5, 12).kinds(1), 32);
        Check.due("31: g 30, for who WANTS 9", marked(9, 9, 30, 0).kinds(1), 1 + 16);
        Edge.bad("31: HEARER 2 of 2", Towns::some, y -> y.kinds(2));
        Edge.bad("31: HEARER -1", Towns::some, y -> y.kinds(-1));
        Edge.asks("31: HEARER 0, by his MARK", Towns::some, 2, y -> y.kinds(0));
        Edge.bad("31: HEARER 0 of none", Towns::bare, y -> y.kinds(0));
    }

    private static void kindsAllAndNone() {
        Check.due("31: all KINDS", marked(9).kinds(1), 63);
        Check.due("31: no KIND", marked(9, 5, 5, 20).kinds(1), 0);
        Check.due("31: no KIND by both", marked(9, 5, 5, 12, 5, 5, 8).kinds(1), 0);
    }

    private static void askFirstOfLikeOnes() {
        // PLAIN, MOTHER, DEAF: 0 to who WANTS 1 parts DEAF; nothing parts all three of them
        Check.due("32: 2 of 3 at g 0", marked(1, 5, 5, 6).ask(1), 0);
        // who WANTS 6, of g 0: 0, 3, 0; 1: 1, 3, 0
        Check.due("32: all apart at g 1", marked(6, 5, 5, 6).ask(1), 1);
        // 7: at g 2 it is 1, 3, 0; 8: at g 3; from 9 on DEAF hears what PLAIN has JOY of
        Check.due("32: all apart at g 2", marked(7, 5, 5, 6).ask(1), 2);
        Check.due("32: all apart at g 3", marked(8, 5, 5, 6).ask(1), 3);
        Check.due("32: never all apart", marked(9, 5, 5, 6).ask(1), 0);
        Check.due("32: one KIND", marked(9, 5, 5, 12).ask(1), 0);
        // PLAIN and BRIDE are apart from w on
        Check.due("32: at g 9, w", marked(9, 4, 3, 5, 9, 4, 1).ask(1), 9);
        Check.due("32: at g 1, w", marked(1, 4, 3, 5, 9, 4, 1).ask(1), 1);
        // PLAIN and DEAF are apart below 4, if PLAIN has any JOY there
        Check.due("32: at g 3, the last", marked(8, 5, 6, 5, 9, 30, 0).ask(1), 3);
        Check.due("32: nowhere: the least", marked(9, 5, 6, 5, 9, 30, 0).ask(1), 0);
    }

    private static void askItsOwnWant() {
        for (int want = 1; want <= 9; want++) {
            Check.due("32: all KINDS who WANT " + want, marked(want).ask(1), firstGoodOfFewest(want));
        }
        Edge.bad("32: HEARER 2 of 2", Towns::some, y -> y.ask(2));
        Edge.bad("32: HEARER -1", Towns::some, y -> y.ask(-1));
        Edge.bad("32: HEARER 0 of none", Towns::bare, y -> y.ask(0));
        Edge.asks("32: HEARER 0, a BRIDE by his MARK", Towns::some, 0, y -> y.ask(0));
    }

    /** JOY of each KIND as the document tells it, by GOOD 0 to 30. */
    private static int firstGoodOfFewest(int want) {
        int best = -1;
        int fewest = 7;
        for (int g = 0; g <= 30; g++) {
            int plain = Math.max(0, 6 - Math.abs(g - want));
            int bride = g < want ? plain : plain + 2;
            int mother = Math.max(plain, 3);
            int most = mostAlike(plain, bride, mother, bride / 2 + bride % 2, g < 4 ? 0 : plain,
                    2 * mother);
            if (most < fewest) {
                fewest = most;
                best = g;
            }
        }
        return best;
    }

    private static void askNone() {
        Check.due("32: no KIND", marked(9, 5, 5, 20).ask(1), -1);
        Check.due("32: the other one has all", marked(9, 5, 5, 20).ask(0), firstGoodOfFewest(1));
    }

    // ---- promise 33

    /** One PROMISE of that JOY to HEARER 0; three BUYERS without a PURSE. */
    private static PledgeWindow bidding(int joy) {
        PledgeWindow x = new PledgeWindow();
        // a KEEPER's JOY is even, 6 at least; a PLAIN one's is 6 at most
        x.promise(0, joy > 6 ? joy / 2 + 3 : joy + 3);
        x.hearer(joy > 6 ? 5 : 0, 9);
        for (int b = 0; b < 3; b++) {
            x.buyer(0);
        }
        return x;
    }

    private static void rest(int joy, int... pairs) {
        PledgeWindow x = bidding(joy);
        Check.due("33: the JOY of it", x.joy(0, 0), joy);
        Check.due("33: JOY " + joy + ", how many", x.bids(0, 1, 0, 0, -1), pairs.length);
        for (int k = 0; k < pairs.length; k++) {
            Check.due("33: JOY " + joy + ", pair " + k, x.bids(0, 1, 0, 0, k), pairs[k]);
            Check.due("33: by other BUYERS", x.bids(2, 0, 0, 0, k), pairs[k]);
        }
        Check.due("33: JOY " + joy + ", one more", x.bids(0, 1, 0, 0, pairs.length), -5);
    }

    private static void bidsFromNoneToNine() {
        // bids of 0, 1, 2 cost nothing, and bring nothing
        rest(0, 0, 1, 2, 10, 11, 12, 20, 21, 22);
        // whoever has it has more than 1 by any bid: both bid 9, the most there is
        rest(6, 99);
        rest(12, 99);
    }

    private static void bidsAlikeAreFirsts() {
        // at 4 the second would as soon let the first have it by 8, but not the first the second
        rest(4, 86, 87, 88, 89, 99);
    }

    private static void bidsAboveFive() {
        // 5 brings the other nothing, so who pays nothing for it bids as well
        rest(1, 20, 21, 22, 23, 24, 25, 33, 34, 35, 43, 44, 45, 53, 54, 55);
        // 6 brings the other 1: who would have no more by it lets it go
        rest(2, 53, 54, 55, 56, 57, 58);
        rest(3, 56, 57, 58, 66, 67, 68, 76, 77, 78, 86, 87, 88);
    }

    private static void bidsThird() {
        // cut: 2 costs nothing, 3 costs 1; 8 costs 2, 9 costs 3
        rest(8, 99);
        rest(5, 99);
        PledgeWindow x = bidding(0);
        Check.due("33: 22 rests by a JOY of 0", x.bids(0, 1, 0, 0, 8), 22);
        Check.due("33: 33 does not", x.bids(0, 1, 0, 0, 9), -5);
    }

    private static void bidsHowManyWhich() {
        Supplier<PledgeWindow> x = () -> bidding(0);
        Edge.asks("33: k NONE: how many", x, 9, y -> y.bids(0, 1, 0, 0, -1));
        Edge.asks("33: k 0, the first", x, 0, y -> y.bids(0, 1, 0, 0, 0));
        Edge.asks("33: k 8, the last", x, 22, y -> y.bids(0, 1, 0, 0, 8));
        Edge.asks("33: k 9, not so many", x, -5, y -> y.bids(0, 1, 0, 0, 9));
        Edge.asks("33: k 99", x, -5, y -> y.bids(0, 1, 0, 0, 99));
        Edge.asks("33: k 100", x, -5, y -> y.bids(0, 1, 0, 0, 100));
        Edge.asks("33: k, the most that an int can be", x, -5, y -> y.bids(0, 1, 0, 0, Integer.MAX_VALUE));
        Edge.refused("33: k -2", x, 0, -10, y -> y.bids(0, 1, 0, 0, -2));
    }

    private static void bidsOfAnything() {
        // wherever it is, whoever WAITS, whatever the PURSES hold
        Edge.asks("33: a KEPT one, to whom it is KEPT", Towns::some, 99, x -> x.bids(0, 1, 0, 1, 0));
        Edge.asks("33: a HELD one", Towns::some, 99, x -> x.bids(1, 0, 1, 0, 0));
        Edge.asks("33: one IN THE WINDOW", Towns::some, 4 + 1, x -> x.bids(0, 1, 3, 0, -1));
        Edge.asks("33: a SHIP that is out", Towns::some, 15, x -> x.bids(0, 1, 4, 0, -1));
        PledgeWindow x = Towns.some();
        x.days(3);
        // in, it is 12 GOOD: to a BRIDE who WANTS 5 a JOY of 2
        Check.due("33: the SHIP is in", x.bids(0, 1, 4, 0, -1), 6);
    }

    private static void bidsBad() {
        Supplier<PledgeWindow> some = Towns::some;
        Edge.refused("33: alike BUYERS 0", some, 0, -10, x -> x.bids(0, 0, 3, 0, -1));
        Edge.refused("33: alike BUYERS 1", some, 0, -10, x -> x.bids(1, 1, 3, 0, 0));
        Edge.refused("33: a is 2 of 2", some, 0, -10, x -> x.bids(2, 1, 3, 0, -1));
        Edge.refused("33: a is -1", some, 0, -10, x -> x.bids(-1, 1, 3, 0, -1));
        Edge.refused("33: b is 2 of 2", some, 0, -10, x -> x.bids(0, 2, 3, 0, -1));
        Edge.refused("33: b is -1", some, 0, -10, x -> x.bids(0, -1, 3, 0, -1));
        Edge.refused("33: PROMISE 5 of 5", some, 0, -10, x -> x.bids(0, 1, 5, 0, -1));
        Edge.refused("33: PROMISE -1", some, 0, -10, x -> x.bids(0, 1, -1, 0, -1));
        Edge.refused("33: HEARER 2 of 2", some, 0, -10, x -> x.bids(0, 1, 3, 2, -1));
        Edge.refused("33: HEARER -1", some, 0, -10, x -> x.bids(0, 1, 3, -1, -1));
        Edge.refused("33: k -2 of alike ones, of none", Towns::bare, 0, -10, x -> x.bids(0, 0, 0, 0, -2));
        Edge.asks("33: BUYER 2 of 3, HEARER 3 of 4, PROMISE 6 of 7", Towns::brim, 99,
                x -> x.bids(2, 1, 6, 3, 0));
        Edge.refused("33: BUYER 3 of 3", Towns::brim, 0, -10, x -> x.bids(3, 1, 6, 3, 0));
    }

    // ---- promise 34

    private static void mean(String what, PledgeWindow x, int c, long above, long below) {
        Check.due("34: " + what + ", redeemed(" + c + ")", x.redeemed(c), 1);
        Check.due("34: " + what + ", above", x.part(0), above);
        Check.due("34: " + what + ", below", x.part(1), below);
    }

    private static PledgeWindow costing(int... worths) {
        PledgeWindow x = new PledgeWindow();
        for (int worth : worths) {
            x.promise(0, worth);
        }
        return x;
    }

    private static void redeemedNoneToTen() {
        mean("none is redeemed", costing(5, 3), 0, 18, 1);
        mean("1 of 10", costing(5, 3), 1, 81, 5);
        mean("9 of 10", costing(5, 3), 9, 9, 5);
        mean("all are redeemed", costing(5, 3), 10, 0, 1);
        Edge.bad("34: c -1", Towns::some, x -> x.redeemed(-1));
        Edge.bad("34: c 11", Towns::some, x -> x.redeemed(11));
        Edge.bad("34: c 11 in a bare town", Towns::bare, x -> x.redeemed(11));
    }

    private static void redeemedLowestTerms() {
        mean("by 10", costing(1), 1, 27, 10);
        mean("by 5", costing(1), 2, 12, 5);
        mean("by 2", costing(1), 5, 3, 2);
        mean("by 1", costing(2), 2, 4, 1);
        mean("0 by 1", costing(2), 10, 0, 1);
        mean("0 by 1, of nothing", costing(), 0, 0, 1);
        mean("0 by 1, of nothing", costing(), 7, 0, 1);
        PledgeWindow x = new PledgeWindow();
        for (int p = 0; p < 7; p++) {
            x.promise(5, 9);
        }
        x.days(40);
        mean("the most there is", x, 0, 357, 1);
        mean("the most there is", x, 1, 3213, 10);
        mean("the last one counts", costing(1, 1, 1, 1, 1, 1, 9), 0, 37, 1);
    }

    private static void redeemedOfTheWindow() {
        PledgeWindow x = Towns.some();
        mean("TIN and SHIP, now", x, 0, 20, 1);
        x.days(1);
        mean("the TIN is worn", x, 0, 18, 1);
        x.days(2);
        mean("the SHIP is in", x, 0, 42, 1);
        x.undo();
        x.undo();
        mean("undone", x, 0, 20, 1);
        x.buys(1, 4);
        mean("one is HELD", x, 0, 19, 1);
        x.keeps(4, 0);
        mean("one is KEPT", x, 0, 19, 1);
        x.town();
        Check.due("34: THE FRACTION stays", x.part(0), 19);
        mean("nothing there", x, 0, 0, 1);
    }

    // ---- promise 35

    /** As many PROMISES of WORTH 5, HEARERS who WANT 5, 4, 3, 2. */
    private static PledgeWindow passing(int promises, int hearers) {
        PledgeWindow x = new PledgeWindow();
        for (int p = 0; p < promises; p++) {
            x.promise(0, 5);
        }
        for (int h = 0; h < hearers; h++) {
            x.hearer(0, 5 - h);
        }
        return x;
    }

    private static void years(String what, PledgeWindow x, int seed, int... due) {
        for (int n = 0; n < due.length; n++) {
            Check.due("35: " + what + ", years(" + seed + ", " + n + ")", x.years(seed, n), due[n]);
        }
    }

    private static void yearsSeeds() {
        years("the least SEED", passing(7, 4), 0, 0, 6, 11, 11, 15, 19, 24, 24, 24, 24, 29, 29, 29);
        years("the most", passing(7, 4), 999999, 0, 4, 9, 12, 12, 18, 23, 23, 27, 27, 30, 30, 30);
        Edge.bad("35: SEED -1", Towns::some, x -> x.years(-1, 5));
        Edge.bad("35: SEED 1000000", Towns::some, x -> x.years(1000000, 5));
    }

    private static void yearsDays() {
        Check.due("35: no DAY", passing(7, 4).years(0, 0), 0);
        Check.due("35: 60 DAYS", passing(7, 4).years(0, 60), 33);
        Check.due("35: 60 DAYS", passing(7, 4).years(999999, 60), 30);
        Check.due("35: 60 DAYS", passing(7, 4).years(1, 60), 35);
        // by 107 PROMISE 0 comes to HEARER 0 ahead of the 60th DAY, not before
        Check.due("35: 59 DAYS", passing(1, 1).years(107, 59), 0);
        Check.due("35: 60 DAYS", passing(1, 1).years(107, 60), 6);
        // by 131 ahead of the 61st
        Check.due("35: 60 DAYS", passing(1, 1).years(131, 60), 0);
        Edge.bad("35: n -1", Towns::some, x -> x.years(0, -1));
        Edge.bad("35: n 61", Towns::some, x -> x.years(0, 61));
        Edge.bad("35: n 61 in a bare town", Towns::bare, x -> x.years(0, 61));
    }

    private static PledgeWindow lone(int kind, int worth, int want) {
        PledgeWindow x = new PledgeWindow();
        x.promise(kind, worth);
        x.hearer(0, want);
        return x;
    }

    private static void yearsAheadOfEachDay() {
        // PROMISE 0 comes to HEARER 0 ahead of the 7th DAY by 52, of the 8th by 53
        years("a SHIP behind 6 DAYS", lone(4, 2, 5), 52, 0, 0, 0, 0, 0, 0, 0, 1, 1);
        years("a SHIP behind 7 DAYS", lone(4, 2, 5), 53, 0, 0, 0, 0, 0, 0, 0, 0, 6, 6);
        // ahead of the 5th by 3, of the 6th by 6
        Check.due("35: TIN behind 4 DAYS", lone(2, 6, 6).years(3, 5), 6);
        Check.due("35: TIN behind 5 DAYS", lone(2, 6, 6).years(6, 6), 5);
        // ahead of the 10th by 24, of the 11th by 63
        Check.due("35: GOLD behind 9 DAYS", lone(1, 5, 6).years(24, 10), 5);
        Check.due("35: GOLD behind 10 DAYS", lone(1, 5, 6).years(63, 11), 6);
        // ahead of the 1st by 0
        Check.due("35: new", lone(4, 2, 5).years(0, 60), 1);
        Check.due("35: KEPT for good, it makes JOY once", lone(0, 5, 5).years(0, 60), 6);
    }

    /** X that just fills a whole 65536 or 1048576, and X that is 1 less. */
    private static void yearsCut() {
        Check.due("35: X of HEARER 1, just so", passing(7, 4).years(501379, 1), 5);
        Check.due("35: X of HEARER 0, 1 less than of 1", passing(7, 4).years(899870, 1), 6);
        PledgeWindow x = new PledgeWindow();
        for (int p = 0; p < 7; p++) {
            x.promise(0, 1 + p);
        }
        for (int h = 0; h < 4; h++) {
            x.hearer(0, 1);
        }
        Check.due("35: X of PROMISE 1, just so", x.years(42627, 1), 5);
        Check.due("35: X of PROMISE 2, 1 less than of 3", x.years(47902, 1), 4);
    }

    private static void yearsIfThere() {
        // by 80: 6 to 3, then 2 to 2; by 10: 0 to 3; by 42: 6 to 0
        Check.due("35: PROMISE 6 of 7", passing(7, 4).years(42, 1), 6);
        Check.due("35: PROMISE 6 of 6", passing(6, 4).years(42, 1), 0);
        Check.due("35: HEARER 3 of 4", passing(7, 4).years(10, 1), 3);
        Check.due("35: HEARER 3 of 3", passing(7, 3).years(10, 1), 0);
        Check.due("35: PROMISE 6 of 7, HEARER 3 of 4", passing(7, 4).years(80, 1), 3);
        years("six PROMISES", passing(6, 4), 80, 0, 0, 4, 4, 8, 8, 11, 11, 11, 11, 11, 11, 15);
        years("three HEARERS", passing(7, 3), 80, 0, 0, 4, 10, 14, 14, 14, 14, 14, 14, 14, 18, 22);
        Check.due("35: no PROMISE", passing(0, 4).years(0, 60), 0);
        Check.due("35: no HEARER", passing(7, 0).years(0, 60), 0);
        // HELD and KEPT ones are not IN THE WINDOW
        PledgeWindow x = lone(0, 5, 5);
        x.buyer(11);
        Check.due("35: IN THE WINDOW", x.years(0, 1), 6);
        x.buys(0, 0);
        Check.due("35: HELD", x.years(0, 1), 0);
        x.keeps(0, 0);
        Check.due("35: KEPT", x.years(0, 1), 6);
        x.promise(0, 4);
        // by 43: 1 to 0
        Check.due("35: another IN THE WINDOW", x.years(43, 1), 11);
    }

    private static void yearsJoyOfAll() {
        Edge.asks("35: JOY of all that is KEPT, behind no DAY", Towns::some, 8, x -> x.years(0, 0));
        Edge.asks("35: and none more", Towns::some, 8, x -> x.years(0, 1));
        PledgeWindow x = lone(0, 5, 5);
        x.hearer(5, 5);
        Check.due("35: one that WAITS no more has JOY as well", x.years(5, 1), 12);
        Check.due("35: asked twice, alike", x.years(5, 1), 12);
        Check.due("35: JOY of all is what it was", x.count(6), 0);
    }

    private static void yearsBeyondTheLastDay() {
        PledgeWindow x = new PledgeWindow();
        Towns.wait(x, 9999);
        x.promise(2, 6);
        x.hearer(0, 6);
        Check.due("35: TIN behind 4 DAYS of 9999", x.years(3, 5), 6);
        Check.due("35: TIN behind 5 DAYS of 9999", x.years(6, 6), 5);
        Check.due("35: the DAY is what it was", x.count(3), 9999);
        Check.due("35: it has not lain", x.of(0, 2), 0);
    }
}
