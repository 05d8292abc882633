/** Promises 36 to 41: THE FRACTION, IMAGES, STATUS, counts and the digest. */
public final class WholeTest {
    private WholeTest() {
    }

    public static void main(String[] args) {
        part();
        image();
        from();
        imagesKeepAll();
        imagesKeepThePast();
        imagesStandApart();
        status();
        statusOfWhatIsNoRefusal();
        count();
        digest();
        Check.end();
    }

    private static PledgeWindow shop() {
        PledgeWindow x = new PledgeWindow();
        x.promise(1, 5);
        x.promise(2, 6);
        x.promise(3, 7);
        x.hearer(1, 5);
        x.hearer(2, 6);
        x.buyer(50);
        x.buyer(60);
        x.days(12);
        x.buys(0, 0);
        x.keeps(0, 1);
        x.buys(1, 1);
        x.days(2);
        x.seen(3, 4);
        x.seen(5, 6);
        x.note(2, 3, 4, 5);
        x.mark(1, 2, 3, 4);
        x.mark(0, 9, 8, 7);
        return x;
    }

    private static void part() {
        PledgeWindow x = new PledgeWindow();
        Check.asks("above at first", x, 0, () -> x.part(0));
        Check.asks("below at first", x, 1, () -> x.part(1));
        Check.bad("part(2)", x, () -> x.part(2));
        Check.bad("part(-1)", x, () -> x.part(-1));
        x.promise(0, 1);
        x.redeemed(9);
        Check.asks("above", x, 3, () -> x.part(0));
        Check.asks("below", x, 10, () -> x.part(1));
    }

    private static void image() {
        PledgeWindow x = new PledgeWindow();
        Check.bad("image(-1)", x, () -> x.image(-1));
        Check.bad("image(2)", x, () -> x.image(2));
        Check.asks("image(0)", x, 1, () -> x.image(0));
        Check.no("from(1), none kept", x, () -> x.from(1));
        Check.asks("image(1)", x, 1, () -> x.image(1));
        Check.asks("from(1)", x, 1, () -> x.from(1));
        x.promise(0, 1);
        x.image(0);
        x.promise(0, 2);
        x.image(0);
        x.town();
        x.from(0);
        Check.due("the later IMAGE", x.count(0), 2);
        Check.due("from(1)", x.from(1), 1);
        Check.due("the other IMAGE", x.count(0), 0);
    }

    private static void from() {
        PledgeWindow x = new PledgeWindow();
        Check.bad("from(-1)", x, () -> x.from(-1));
        Check.bad("from(2)", x, () -> x.from(2));
        Check.no("from(0)", x, () -> x.from(0));
        Check.no("from(1)", x, () -> x.from(1));
        x.image(1);
        Check.no("from(0), none kept", x, () -> x.from(0));
        Check.due("from(1)", x.from(1), 1);
        Check.due("from(1) again", x.from(1), 1);
    }

    private static void imagesKeepAll() {
        PledgeWindow x = shop();
        long kept = x.digest();
        x.image(0);
        x.keeps(1, 0);
        x.days(30);
        x.undo();
        x.undo();
        x.undo();
        x.promise(0, 9);
        x.hearer(0, 9);
        x.buyer(9);
        x.seen(1, 1);
        x.note(0, 1, 1, 1);
        x.mark(0, 1, 1, 1);
        x.forget(0);
        x.image(1);
        Check.due("from(0)", x.from(0), 1);
        Check.due("all as it was", x.digest(), kept);
        Check.due("what may be undone", x.count(10), 5);
        Check.due("undo() of DAYS", x.undo(), 12);
        Check.due("undo() of BUYING", x.undo(), 12);
        Check.due("PURSE then", x.purse(1, 0), 60);
        Check.due("from(0) again", x.from(0), 1);
        Check.due("all as it was", x.digest(), kept);
        Check.due("from(1)", x.from(1), 1);
        Check.due("PROMISES then", x.count(0), 4);
        Check.due("what may be undone", x.count(10), 0);
        Check.due("SEEN", x.count(7), 0);
        Check.due("NOTES", x.count(8), 2);
        Check.due("MARKS", x.count(9), 3);
    }

    /** What comes behind an IMAGE takes the same places; the IMAGE must hold its own. */
    private static void imagesKeepThePast() {
        PledgeWindow x = shop();
        x.image(1);
        long kept = x.digest();
        for (int what = 0; what < 3; what++) {
            x.forget(what);
        }
        x.seen(99, 30);
        x.seen(99, 29);
        x.note(0, 9, 99, 30);
        x.mark(1, 9, 30, 20);
        x.mark(1, 9, 30, 19);
        for (int i = 0; i < 9; i++) {
            x.days(50);
        }
        x.image(0);
        long later = x.digest();
        Check.due("from(1)", x.from(1), 1);
        Check.due("SEEN, NOTES, MARKS as they were", x.digest(), kept);
        Check.due("undo() of DAYS", x.undo(), 12);
        Check.due("undo() of BUYING", x.undo(), 12);
        Check.due("IN THE WINDOW then", x.count(4), 2);
        Check.due("undo() of KEEPING", x.undo(), 12);
        Check.due("JOY then", x.count(6), 0);
        Check.due("undo() of BUYING", x.undo(), 12);
        Check.due("PURSE then", x.purse(0, 0), 50);
        Check.due("undo() of DAYS", x.undo(), 0);
        Check.no("undo() of none", x, x::undo);
        Check.due("from(0)", x.from(0), 1);
        Check.due("all as it was later", x.digest(), later);
        for (int i = 1; i <= 8; i++) {
            Check.due("undo() of 50 DAYS", x.undo(), 464 - 50 * i);
        }
        Check.no("undo() of none", x, x::undo);
    }

    private static void imagesStandApart() {
        PledgeWindow x = shop();
        x.image(0);
        x.redeemed(5);
        long above = x.part(0);
        x.type(9);
        x.type(300);
        x.buys(0, 0);
        x.from(0);
        Check.due("THE TEXT stays", x.count(11), 1);
        Check.due("THE FRACTION stays", x.part(0), above);
        Check.due("STATUS stays: BAD", x.status(0), 1);
        Check.due("STATUS stays: NO", x.status(1), 1);
        x.town();
        x.from(0);
        Check.due("IMAGES stay behind town()", x.count(0), 3);
        Check.due("the TEXT is kept by none", x.clear(), 1);
        x.from(0);
        Check.due("the TEXT is kept by none", x.count(11), 0);
    }

    private static void status() {
        PledgeWindow x = new PledgeWindow();
        x.promise(9, 9);
        x.fit(5);
        x.bids(0, 0, 0, 0, 0);
        Check.due("BAD", x.status(0), 3);
        Check.due("status(3)", x.status(3), -1);
        Check.due("status(-1)", x.status(-1), -1);
        Check.due("BAD then", x.status(0), 5);
        x.undo();
        x.from(0);
        Check.due("NO", x.status(1), 2);
        for (int n = 0; n < 6; n++) {
            x.seen(0, 0);
        }
        Check.due("FULL", x.status(2), 1);
        Check.due("BAD still", x.status(0), 5);
        Check.refused("status(7)", x, 0, -1, () -> x.status(7));
        x.town();
        x.clear();
        Check.due("behind town(): BAD", x.status(0), 6);
        Check.due("behind town(): NO", x.status(1), 2);
        Check.due("behind town(): FULL", x.status(2), 1);
    }

    private static void statusOfWhatIsNoRefusal() {
        PledgeWindow x = new PledgeWindow();
        x.hearer(0, 9);
        x.buyer(1);
        x.buyer(1);
        Check.asks("cheap(), NONE", x, -1, x::cheap);
        Check.asks("tell(), NONE", x, -1, x::tell);
        Check.asks("fit(), NONE", x, -1, () -> x.fit(0));
        Check.asks("read(), a FAULT", x, -10, x::read);
        x.promise(0, 9);
        Check.asks("when(), NONE", x, -1, () -> x.when(0, 10));
        Check.asks("bids(), not so many", x, -5, () -> x.bids(0, 1, 0, 0, 99));
    }

    private static void count() {
        PledgeWindow x = shop();
        x.type(1);
        x.type(2);
        x.type(3);
        // GOLD of 5, 12 DAYS in, is 6 good: 6 of JOY to the MOTHER who wants that
        int[] due = {3, 2, 2, 14, 1, 1, 6, 2, 1, 2, 5, 3};
        for (int what = 0; what < due.length; what++) {
            int asked = what;
            Check.asks("count(" + what + ")", x, due[what], () -> x.count(asked));
        }
        Check.bad("count(-1)", x, () -> x.count(-1));
        Check.bad("count(12)", x, () -> x.count(12));
    }

    private static void digest() {
        PledgeWindow x = shop();
        x.redeemed(5);
        x.type(32);
        // 50 less 13 is 37; TIN of 6 behind 12 DAYS is 4 good, so 60 less 9; CHILD'S of 7: 5
        long due = Check.digest(3, 2, 2, 14, 1, 1, 6, 2, 1, 2, 5, 1,
                1, 5, 12, 11, 2, 6, 12, 2, 3, 7, 14, 0,
                1, 5, 2, 6,
                37, 51,
                3, 4, 5, 6,
                2, 3, 4, 5,
                1, 2, 3, 4, 0, 9, 8, 7,
                11, 2);
        Check.asks("digest()", x, due, x::digest);
    }
}
