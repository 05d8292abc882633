import java.util.ArrayList;
import java.util.List;
import java.util.function.Supplier;

/** The boundaries that promises 36 to 41 name: the fraction, images, STATUS, counts, the digest. */
public final class EdgeWholeTest {
    private EdgeWholeTest() {
    }

    public static void main(String[] args) {
        partWhat();
        partAtFirst();
        imageNumbers();
        imageTakesThePlaceOfAnother();
        imageOfAll();
        imageOfAFullTown();
        fromNumbers();
        fromNoneKept();
        fromAgainAndAgain();
        fromLeavesTextFractionStatus();
        fromKeepsWhatMayBeUndone();
        statusWhat();
        statusCountsEach();
        statusOfOthersTold();
        countWhat();
        countAtMost();
        digestOfNothing();
        digestOfAll();
        digestOfEachChange();
        fiveHundredAndTwelveCalls();
        Check.end();
    }

    // ---- promise 36

    private static void partWhat() {
        Edge.asks("36: above", Towns::some, 14, x -> x.part(0));
        Edge.asks("36: below", Towns::some, 1, x -> x.part(1));
        Edge.bad("36: what -1", Towns::some, x -> x.part(-1));
        Edge.bad("36: what 2", Towns::some, x -> x.part(2));
    }

    private static void partAtFirst() {
        Edge.asks("36: above at first", Towns::bare, 0, x -> x.part(0));
        Edge.asks("36: below at first", Towns::bare, 1, x -> x.part(1));
        PledgeWindow x = new PledgeWindow();
        x.promise(0, 9);
        x.redeemed(11);
        Check.due("36: what is refused leaves it", x.part(0), 0);
        x.redeemed(9);
        Check.due("36: the last one told, above", x.part(0), 19);
        Check.due("36: the last one told, below", x.part(1), 10);
        x.redeemed(10);
        Check.due("36: another one, above", x.part(0), 0);
        Check.due("36: another one, below", x.part(1), 1);
    }

    // ---- promises 37 and 38

    private static void imageNumbers() {
        Edge.bad("37: IMAGE -1", Towns::some, x -> x.image(-1));
        Edge.bad("37: IMAGE 2", Towns::some, x -> x.image(2));
        for (int i = 0; i < 2; i++) {
            PledgeWindow x = Towns.some();
            Check.due("37: IMAGE " + i, x.image(i), 1);
            Check.holds("37: nothing else is changed", x.digest() == Towns.some().digest());
            x.town();
            Check.due("38: IMAGE " + i, x.from(i), 1);
            Check.due("38: it goes on from it", x.digest(), Towns.some().digest());
        }
    }

    private static void imageTakesThePlaceOfAnother() {
        PledgeWindow x = new PledgeWindow();
        x.image(0);
        x.image(1);
        x.promise(0, 5);
        x.image(0);
        x.promise(0, 6);
        Check.due("38: the later IMAGE 0", x.from(0), 1);
        Check.due("38: has one PROMISE", x.count(0), 1);
        Check.due("38: IMAGE 1", x.from(1), 1);
        Check.due("38: has none", x.count(0), 0);
        x.image(0);
        x.promise(0, 7);
        x.from(0);
        Check.due("38: IMAGE 0 of what was IMAGE 1", x.count(0), 0);
    }

    /** What comes behind an IMAGE must not reach into it. */
    private static void spoil(PledgeWindow x) {
        x.undo();
        x.days(50);
        x.buys(1, 4);
        x.keeps(1, 0);
        x.forget(0);
        x.forget(1);
        x.forget(2);
        x.seen(99, 30);
        x.note(4, 9, 99, 30);
        x.mark(1, 9, 30, 20);
        x.promise(5, 1);
        x.hearer(5, 1);
        x.buyer(999);
        x.days(1);
        x.town();
        x.promise(4, 4);
        x.days(2);
    }

    private static void imageOfAll() {
        for (int i = 0; i < 2; i++) {
            PledgeWindow x = Towns.some();
            x.image(i);
            spoil(x);
            x.from(i);
            Check.due("38: all is as it was", x.digest(), Towns.some().digest());
            x.image(1 - i);
            spoil(x);
            x.from(1 - i);
            Check.due("38: all is as it was from the other one", x.digest(), Towns.some().digest());
            spoil(x);
            x.from(i);
            Check.due("38: and from the first again", x.digest(), Towns.some().digest());
        }
    }

    private static void imageOfAFullTown() {
        PledgeWindow x = Towns.brim();
        x.image(0);
        x.town();
        x.from(0);
        Check.due("38: all of a full town", x.digest(), Towns.brim().digest());
        Edge.full("38: no room for a PROMISE in it", EdgeWholeTest::fromFull, y -> y.promise(0, 1));
        Edge.full("38: no room for a HEARER", EdgeWholeTest::fromFull, y -> y.hearer(0, 1));
        Edge.full("38: no room for a BUYER", EdgeWholeTest::fromFull, y -> y.buyer(1));
        Edge.full("38: no room for a SEEN one", EdgeWholeTest::fromFull, y -> y.seen(1, 1));
        Edge.full("38: no room for a NOTE", EdgeWholeTest::fromFull, y -> y.note(0, 1, 1, 1));
        Edge.full("38: no room for a MARK", EdgeWholeTest::fromFull, y -> y.mark(0, 1, 1, 1));
    }

    private static PledgeWindow fromFull() {
        PledgeWindow x = Towns.brim();
        x.image(0);
        x.town();
        x.from(0);
        return x;
    }

    private static void fromNumbers() {
        Edge.bad("38: IMAGE -1", Towns::brim, x -> x.from(-1));
        Edge.bad("38: IMAGE 2", Towns::brim, x -> x.from(2));
        Edge.bad("38: IMAGE 2 where none was kept: BAD is the first of", Towns::bare, x -> x.from(2));
    }

    private static void fromNoneKept() {
        Edge.no("38: IMAGE 0, none", Towns::bare, x -> x.from(0));
        Edge.no("38: IMAGE 1, none", Towns::bare, x -> x.from(1));
        Edge.no("38: IMAGE 0, only 1 was kept", Towns::some, x -> x.from(0));
        Supplier<PledgeWindow> zero = () -> {
            PledgeWindow x = new PledgeWindow();
            x.promise(0, 5);
            x.image(0);
            x.days(5);
            return x;
        };
        Edge.no("38: IMAGE 1, only 0 was kept", zero, x -> x.from(1));
        Supplier<PledgeWindow> refused = () -> {
            PledgeWindow x = new PledgeWindow();
            x.image(2);
            x.image(-1);
            return x;
        };
        Edge.no("38: IMAGE 0, a BAD one keeps none", refused, x -> x.from(0));
        Edge.no("38: IMAGE 1, a BAD one keeps none", refused, x -> x.from(1));
        PledgeWindow x = new PledgeWindow();
        x.image(0);
        Check.due("38: one of a bare town is one", x.from(0), 1);
    }

    private static void fromAgainAndAgain() {
        PledgeWindow x = Towns.some();
        x.image(0);
        for (int n = 0; n < 5; n++) {
            spoil(x);
            Check.due("38: from(0) again", x.from(0), 1);
            Check.due("38: all is as it was", x.digest(), Towns.some().digest());
        }
        Check.due("38: from(0) twice", x.from(0), 1);
        Check.due("38: changes nothing", x.digest(), Towns.some().digest());
    }

    private static void fromLeavesTextFractionStatus() {
        PledgeWindow x = new PledgeWindow();
        x.type(' ');
        x.image(0);
        x.promise(0, 5);
        x.redeemed(5);
        Towns.type(x, "town;days 3;");
        x.promise(0, 0);
        x.undo();
        x.undo();
        Check.due("38: from(0)", x.from(0), 1);
        Check.due("38: THE FRACTION stays, above", x.part(0), 11);
        Check.due("38: THE FRACTION stays, below", x.part(1), 2);
        Check.due("38: STATUS stays: BAD", x.status(0), 1);
        Check.due("38: STATUS stays: NO", x.status(1), 2);
        Check.due("38: STATUS stays: FULL", x.status(2), 0);
        Check.due("38: THE TEXT stays", x.count(11), 12);
        Check.due("38: and is read", x.read(), 2);
        Check.due("38: as it was told", x.count(3), 3);
        Check.due("38: IMAGE 0 stays", x.from(0), 1);
        Check.due("38: as it was", x.count(3), 0);
        Check.due("38: IMAGE 1 is none still", x.from(1), -3);
    }

    private static void fromKeepsWhatMayBeUndone() {
        PledgeWindow x = new PledgeWindow();
        x.promise(1, 5);
        x.image(0);
        for (int n = 1; n <= 9; n++) {
            x.days(n);
        }
        x.image(1);
        x.from(0);
        Check.due("38: nothing may be undone there", x.count(10), 0);
        Check.due("38: undo()", x.undo(), -3);
        x.days(60);
        x.days(30);
        x.from(1);
        Check.due("38: eight may be undone there", x.count(10), 8);
        int[] days = {36, 28, 21, 15, 10, 6, 3, 1};
        for (int n = 0; n < 8; n++) {
            Check.due("38: undo() " + n, x.undo(), days[n]);
            Check.due("38: it has lain", x.of(0, 2), days[n]);
        }
        Check.due("38: undo() of none", x.undo(), -3);
        x.from(1);
        Check.due("38: eight again", x.count(10), 8);
        x.from(0);
        x.days(7);
        Check.due("38: one behind an IMAGE of none", x.count(10), 1);
        Check.due("38: undone", x.undo(), 0);
    }

    // ---- promise 39

    private static void statusWhat() {
        Edge.asks("39: BAD", Towns::bare, 0, x -> x.status(0));
        Edge.asks("39: FULL", Towns::bare, 0, x -> x.status(2));
        Edge.refused("39: what -1 is another one", Towns::bare, 0, -1, x -> x.status(-1));
        Edge.refused("39: what 3 is another one", Towns::bare, 0, -1, x -> x.status(3));
        PledgeWindow x = new PledgeWindow();
        x.status(3);
        Check.due("39: it counts as BAD", x.status(0), 1);
        x.status(-1);
        Check.due("39: and again", x.status(0), 2);
        Check.due("39: not as NO", x.status(1), 0);
        Check.due("39: not as FULL", x.status(2), 0);
    }

    private static void statusCountsEach() {
        PledgeWindow x = new PledgeWindow();
        for (int n = 1; n <= 150; n++) {
            x.type(128);
            Check.due("39: BAD " + n, x.status(0), n);
        }
        for (int n = 1; n <= 50; n++) {
            x.undo();
            Check.due("39: NO " + n, x.status(1), n);
        }
        Check.due("39: FULL are none", x.status(2), 0);
        Check.due("39: BAD are as many as before", x.status(0), 150);
        PledgeWindow y = Towns.brim();
        for (int n = 1; n <= 50; n++) {
            y.type(32);
            Check.due("39: FULL " + n, y.status(2), n);
        }
        Check.due("39: BAD are none", y.status(0), 0);
        Check.due("39: NO are none", y.status(1), 0);
    }

    /** -10 of fit() and bids() counts as BAD; -5, NONE and a FAULT are not told as such. */
    private static void statusOfOthersTold() {
        PledgeWindow x = Towns.some();
        x.fit(2);
        x.fit(-2);
        x.bids(0, 0, 0, 0, 0);
        x.bids(0, 1, 0, 0, -2);
        Check.due("39: four that are told as -10", x.status(0), 4);
        x.bids(0, 1, 0, 0, 999);
        x.when(3, 30);
        Towns.type(x, "city;");
        x.read();
        Check.due("39: BAD then", x.status(0), 4);
        Check.due("39: NO then", x.status(1), 0);
        Check.due("39: FULL then", x.status(2), 0);
    }

    // ---- promise 40

    private static void countWhat() {
        int[] due = {5, 2, 2, 4, 2, 1, 8, 2, 1, 2, 5, 20};
        for (int what = 0; what < 12; what++) {
            int asked = what;
            Edge.asks("40: count(" + what + ")", Towns::some, due[what], x -> x.count(asked));
        }
        Edge.bad("40: what -1", Towns::some, x -> x.count(-1));
        Edge.bad("40: what 12", Towns::some, x -> x.count(12));
    }

    private static void countAtMost() {
        int[] none = new int[12];
        int[] full = {7, 4, 3, 9999, 4, 1, 12, 5, 6, 6, 8, 150};
        PledgeWindow bare = Towns.bare();
        PledgeWindow brim = Towns.brim();
        for (int what = 0; what < 12; what++) {
            Check.due("40: of nothing, count(" + what + ")", bare.count(what), none[what]);
            Check.due("40: of a full one, count(" + what + ")", brim.count(what), full[what]);
        }
    }

    // ---- promise 41

    private static void digestOfNothing() {
        Edge.asks("41: of nothing", Towns::bare,
                Check.digest(0, 0, 0, 0, 0, 0, 0, 0, 0, 0, 0, 0, 0, 1), PledgeWindow::digest);
    }

    private static void digestOfAll() {
        long some = Check.digest(5, 2, 2, 4, 2, 1, 8, 2, 1, 2, 5, 20,
                0, 5, 4, 11, 1, 6, 4, 2, 3, 4, 4, 1, 2, 9, 4, 0, 4, 9, 4, 0,
                1, 5, 5, 7,
                10, 16,
                6, 5, 20, 5,
                1, 6, 10, 7,
                0, 5, 5, 8, 1, 7, 5, 8,
                14, 1);
        Edge.asks("41: of some", Towns::some, some, PledgeWindow::digest);
        // what 7 of 10 leave of the PRICES on DAY 0: 19, 17, 15, 13, 1, 17, 7
        long brim = Check.digest(7, 4, 3, 9999, 4, 1, 12, 5, 6, 6, 8, 150,
                0, 9, 9999, 0, 1, 8, 9999, 0, 2, 7, 9999, 3, 3, 6, 9999, 0, 4, 5, 9999, 0,
                5, 4, 9999, 1, 0, 3, 9999, 13,
                2, 9, 3, 7, 4, 5, 5, 3,
                955, 0, 29,
                99, 30, 99, 29, 99, 28, 99, 27, 99, 26,
                6, 9, 99, 30, 5, 8, 99, 29, 4, 7, 99, 28, 3, 6, 99, 27, 2, 5, 99, 26, 1, 4, 99, 25,
                0, 9, 30, 20, 1, 8, 30, 19, 2, 7, 30, 18, 3, 6, 30, 17, 0, 5, 30, 16, 1, 4, 30, 15,
                267, 10);
        Edge.asks("41: of a full one", Towns::brim, brim, PledgeWindow::digest);
    }

    /** Whatever is changed, the digest is another one. */
    private static void digestOfEachChange() {
        PledgeWindow x = Towns.some();
        List<Long> digests = new ArrayList<>();
        digests.add(x.digest());
        x.days(1);
        digests.add(x.digest());
        x.keeps(1, 0);
        digests.add(x.digest());
        x.undo();
        x.keeps(1, 1);
        digests.add(x.digest());
        x.seen(0, 0);
        digests.add(x.digest());
        x.note(0, 1, 0, 0);
        digests.add(x.digest());
        x.mark(0, 1, 0, 0);
        digests.add(x.digest());
        x.redeemed(1);
        digests.add(x.digest());
        x.type(32);
        digests.add(x.digest());
        x.promise(0, 1);
        digests.add(x.digest());
        x.hearer(0, 1);
        digests.add(x.digest());
        x.buyer(0);
        digests.add(x.digest());
        for (int i = 0; i < digests.size(); i++) {
            Check.due("41: digests are apart, " + i, digests.lastIndexOf(digests.get(i)), i);
        }
        long before = x.digest();
        x.type(200);
        x.image(0);
        Check.due("41: STATUS and IMAGES are none of it", x.digest(), before);
    }

    // ---- what it is

    /** The last of 512 calls answers as any other. */
    private static void fiveHundredAndTwelveCalls() {
        PledgeWindow x = new PledgeWindow();
        for (int call = 1; call <= 510; call++) {
            Check.due("call " + call, x.type(128), -2);
        }
        Check.due("call 511", x.status(0), 510);
        Check.due("call 512", x.digest(), new PledgeWindow().digest());
    }
}
