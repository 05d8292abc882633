/**
 * Towns that the tests of boundaries begin from: with nothing, with some of each, and with as
 * much of each as there is room for. Each call makes the same one anew.
 */
final class Towns {
    private Towns() {
    }

    /** 150 bytes, all of which count: a town of 9 ITEMS. */
    static final String FULL_TEXT = "town;promise 1 7;promise 4 3;hearer 3 8;buyer 99;days 12;"
            + "buy 0 1;keep 1 0;days 3;                                   "
            + "                                  ";

    static PledgeWindow bare() {
        return new PledgeWindow();
    }

    /**
     * PROMISE 0 KEPT to HEARER 1, 1 HELD by BUYER 1, 2 HELD by BUYER 0, 3 and 4 IN THE WINDOW;
     * what BUYER 0 still has is less than any PRICE but that of a SHIP; five steps that may be
     * undone; IMAGE 1 is another town, and no IMAGE 0 is kept.
     */
    static PledgeWindow some() {
        PledgeWindow x = new PledgeWindow();
        x.promise(5, 9);
        x.hearer(2, 4);
        x.buyer(77);
        x.days(31);
        x.buys(0, 0);
        x.seen(4, 4);
        x.image(1);
        x.town();
        x.promise(0, 5);
        x.promise(1, 6);
        x.promise(3, 4);
        x.promise(2, 9);
        x.promise(4, 9);
        x.hearer(1, 5);
        x.hearer(5, 7);
        x.buyer(19);
        x.buyer(40);
        x.days(4);
        x.buys(1, 0);
        x.keeps(0, 1);
        x.buys(1, 1);
        x.buys(0, 2);
        x.seen(6, 5);
        x.seen(20, 5);
        x.note(1, 6, 10, 7);
        x.mark(0, 5, 5, 8);
        x.mark(1, 7, 5, 8);
        x.redeemed(3);
        type(x, "town;days 9;buyer 7;");
        return x;
    }

    /** As many of all as may be, at DAY 9999, both IMAGES kept. */
    static PledgeWindow brim() {
        PledgeWindow x = new PledgeWindow();
        for (int p = 0; p < 7; p++) {
            x.promise(p % 6, 9 - p);
        }
        for (int h = 0; h < 4; h++) {
            x.hearer(h + 2, 9 - 2 * h);
        }
        x.buyer(999);
        x.buyer(0);
        x.buyer(30);
        for (int n = 0; n < 5; n++) {
            x.seen(99, 30 - n);
        }
        for (int n = 0; n < 6; n++) {
            x.note(6 - n, 9 - n, 99, 30 - n);
            x.mark(n % 4, 9 - n, 30, 20 - n);
        }
        x.redeemed(7);
        x.image(0);
        for (int n = 0; n < 101; n++) {
            x.days(99);
        }
        x.image(1);
        x.buys(0, 6);
        x.keeps(6, 3);
        x.buys(0, 5);
        x.buys(2, 2);
        type(x, FULL_TEXT);
        return x;
    }

    static void type(PledgeWindow x, String text) {
        x.clear();
        for (int i = 0; i < text.length(); i++) {
            x.type(text.charAt(i));
        }
    }

    /** A town at a DAY as near to the last one as told; PROMISES there have lain as long. */
    static void wait(PledgeWindow x, int day) {
        int left = day - x.count(3);
        while (left > 0) {
            int n = Math.min(99, left);
            x.days(n);
            left -= n;
        }
    }
}
