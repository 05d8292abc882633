/** Promises 16 to 22: how GOOD, what JOY, when; whom each is meant for, what to buy. */
public final class JoyTest {
    private JoyTest() {
    }

    public static void main(String[] args) {
        goodByKinds();
        good();
        joyByKinds();
        joy();
        when();
        waits();
        fit();
        fitFirstWay();
        fitOfWindowOnly();
        buy();
        buyBad();
        cheap();
        cheapOfWhoWaits();
        Check.end();
    }

    private static final int[] LAIN = {0, 4, 5, 6, 7, 9, 10, 19, 20, 34, 35, 39, 40, 44, 45, 49, 50, 60};

    private static void goodRow(int kind, int worth, int... due) {
        PledgeWindow x = new PledgeWindow();
        x.promise(kind, worth);
        for (int i = 0; i < LAIN.length; i++) {
            Check.due("kind " + kind + " of worth " + worth + ": good(0, " + LAIN[i] + ")",
                    x.good(0, LAIN[i]), due[i]);
        }
        int day = 0;
        for (int i = 0; i < LAIN.length; i++) {
            if (LAIN[i] > day) {
                x.days(LAIN[i] - day);
                day = LAIN[i];
            }
            Check.due("kind " + kind + " of worth " + worth + ": GOOD on day " + day,
                    x.of(0, 4), due[i]);
        }
    }

    private static void goodByKinds() {
        goodRow(0, 9, 9, 9, 9, 9, 9, 9, 9, 9, 9, 9, 9, 9, 9, 9, 9, 9, 9, 9);
        goodRow(0, 1, 1, 1, 1, 1, 1, 1, 1, 1, 1, 1, 1, 1, 1, 1, 1, 1, 1, 1);
        goodRow(1, 9, 9, 9, 9, 9, 9, 9, 10, 10, 11, 12, 12, 12, 13, 13, 13, 13, 14, 14);
        goodRow(1, 1, 1, 1, 1, 1, 1, 1, 2, 2, 3, 4, 4, 4, 5, 5, 5, 5, 6, 6);
        goodRow(2, 9, 9, 9, 8, 8, 8, 8, 7, 6, 5, 3, 2, 2, 1, 1, 0, 0, 0, 0);
        goodRow(2, 1, 1, 1, 0, 0, 0, 0, 0, 0, 0, 0, 0, 0, 0, 0, 0, 0, 0, 0);
        goodRow(3, 9, 9, 9, 8, 8, 8, 8, 7, 6, 5, 3, 2, 2, 2, 2, 2, 2, 2, 2);
        goodRow(3, 1, 2, 2, 2, 2, 2, 2, 2, 2, 2, 2, 2, 2, 2, 2, 2, 2, 2, 2);
        goodRow(4, 9, 0, 0, 0, 0, 12, 12, 12, 12, 12, 12, 12, 12, 12, 12, 12, 12, 12, 12);
        goodRow(4, 1, 0, 0, 0, 0, 4, 4, 4, 4, 4, 4, 4, 4, 4, 4, 4, 4, 4, 4);
        goodRow(5, 9, 18, 18, 18, 18, 18, 18, 20, 20, 22, 24, 24, 24, 25, 25, 25, 25, 25, 25);
        goodRow(5, 1, 2, 2, 2, 2, 2, 2, 4, 4, 6, 8, 8, 8, 10, 10, 10, 10, 12, 12);
    }

    private static void good() {
        PledgeWindow x = new PledgeWindow();
        Check.bad("good(0, 0) of none", x, () -> x.good(0, 0));
        x.promise(1, 5);
        x.promise(1, 5);
        x.promise(1, 5);
        x.hearer(0, 1);
        x.buyer(100);
        x.days(8);
        x.buys(0, 1);
        x.buys(0, 2);
        x.keeps(2, 0);
        Check.asks("IN THE WINDOW, 1 on", x, 5, () -> x.good(0, 1));
        Check.asks("IN THE WINDOW, 2 on", x, 6, () -> x.good(0, 2));
        Check.asks("IN THE WINDOW, 60 on", x, 10, () -> x.good(0, 60));
        Check.due("HELD, 60 on", x.good(1, 60), 5);
        Check.due("KEPT, 60 on", x.good(2, 60), 5);
        Check.bad("good(0, -1)", x, () -> x.good(0, -1));
        Check.bad("good(0, 61)", x, () -> x.good(0, 61));
        Check.bad("good(3, 0)", x, () -> x.good(3, 0));
        Check.bad("good(-1, 0)", x, () -> x.good(-1, 0));
        for (int i = 0; i < 101; i++) {
            x.days(99);
        }
        x.promise(1, 5);
        Check.due("the last DAY", x.count(3), 9999);
        Check.due("beyond it", x.good(3, 60), 10);
        Check.due("when beyond it", x.when(3, 7), 20);
    }

    /** A HEARER of the kind and want told, and one PROMISE for each of these goods. */
    private static void joyRow(int kind, int want, int... due) {
        int[] goods = {0, 1, 3, 4, 5, 6, 9, 10, 11, 12, 18, 25};
        for (int i = 0; i < goods.length; i++) {
            PledgeWindow x = new PledgeWindow();
            x.hearer(kind, want);
            if (goods[i] == 0) {
                x.promise(4, 1);
            } else if (goods[i] < 10) {
                x.promise(0, goods[i]);
            } else if (goods[i] == 11) {
                x.promise(4, 8);
                x.days(7);
            } else if (goods[i] == 25) {
                x.promise(5, 9);
                x.days(50);
            } else {
                x.promise(5, goods[i] / 2);
            }
            Check.due("GOOD of it", x.of(0, 4), goods[i]);
            Check.due("kind " + kind + " who wants " + want + ": JOY of " + goods[i],
                    x.joy(0, 0), due[i]);
        }
    }

    private static void joyByKinds() {
        // goods: 0, 1, 3, 4, 5, 6, 9, 10, 11, 12, 18, 25
        joyRow(0, 5, 1, 2, 4, 5, 6, 5, 2, 1, 0, 0, 0, 0);
        joyRow(0, 1, 5, 6, 4, 3, 2, 1, 0, 0, 0, 0, 0, 0);
        joyRow(0, 9, 0, 0, 0, 1, 2, 3, 6, 5, 4, 3, 0, 0);
        joyRow(1, 5, 1, 2, 4, 5, 8, 7, 4, 3, 2, 2, 2, 2);
        joyRow(1, 9, 0, 0, 0, 1, 2, 3, 8, 7, 6, 5, 2, 2);
        joyRow(2, 5, 3, 3, 4, 5, 6, 5, 3, 3, 3, 3, 3, 3);
        joyRow(2, 9, 3, 3, 3, 3, 3, 3, 6, 5, 4, 3, 3, 3);
        joyRow(3, 5, 1, 1, 2, 3, 4, 4, 2, 2, 1, 1, 1, 1);
        joyRow(3, 9, 0, 0, 0, 1, 1, 2, 4, 4, 3, 3, 1, 1);
        joyRow(4, 5, 0, 0, 0, 5, 6, 5, 2, 1, 0, 0, 0, 0);
        joyRow(4, 1, 0, 0, 0, 3, 2, 1, 0, 0, 0, 0, 0, 0);
        joyRow(5, 5, 6, 6, 8, 10, 12, 10, 6, 6, 6, 6, 6, 6);
        joyRow(5, 9, 6, 6, 6, 6, 6, 6, 12, 10, 8, 6, 6, 6);
    }

    private static void joy() {
        PledgeWindow x = new PledgeWindow();
        Check.bad("joy(0, 0) of none", x, () -> x.joy(0, 0));
        x.promise(1, 5);
        x.promise(1, 5);
        Check.bad("joy(0, 0) to nobody", x, () -> x.joy(0, 0));
        x.hearer(0, 7);
        x.hearer(0, 1);
        x.buyer(99);
        x.days(10);
        Check.asks("joy(0, 0)", x, 5, () -> x.joy(0, 0));
        x.buys(0, 0);
        x.days(10);
        Check.asks("of a HELD one", x, 5, () -> x.joy(0, 0));
        x.keeps(0, 1);
        Check.asks("of a KEPT one", x, 5, () -> x.joy(0, 0));
        Check.asks("of one IN THE WINDOW", x, 6, () -> x.joy(1, 0));
        Check.asks("to another", x, 0, () -> x.joy(1, 1));
        Check.bad("joy(2, 0)", x, () -> x.joy(2, 0));
        Check.bad("joy(-1, 0)", x, () -> x.joy(-1, 0));
        Check.bad("joy(0, 2)", x, () -> x.joy(0, 2));
        Check.bad("joy(0, -1)", x, () -> x.joy(0, -1));
    }

    private static void when() {
        PledgeWindow x = new PledgeWindow();
        Check.bad("when(0, 1) of none", x, () -> x.when(0, 1));
        x.promise(1, 9);
        x.promise(4, 9);
        x.promise(5, 9);
        x.promise(2, 9);
        x.promise(1, 9);
        Check.asks("when(0, 9)", x, 0, () -> x.when(0, 9));
        Check.asks("when(0, 10)", x, 10, () -> x.when(0, 10));
        Check.asks("when(0, 14)", x, 50, () -> x.when(0, 14));
        Check.asks("when(0, 15)", x, -1, () -> x.when(0, 15));
        Check.asks("when(1, 1)", x, 7, () -> x.when(1, 1));
        Check.asks("when(1, 12)", x, 7, () -> x.when(1, 12));
        Check.asks("when(1, 13)", x, -1, () -> x.when(1, 13));
        Check.asks("when(2, 25)", x, 40, () -> x.when(2, 25));
        Check.asks("when(2, 30)", x, -1, () -> x.when(2, 30));
        Check.asks("when(3, 9)", x, 0, () -> x.when(3, 9));
        x.hearer(0, 9);
        x.buyer(99);
        x.buys(0, 4);
        x.days(6);
        Check.due("a ship's last day", x.when(1, 12), 1);
        Check.due("TIN, worn", x.when(3, 9), -1);
        Check.due("HELD: as good as now", x.when(4, 9), 0);
        Check.due("HELD: never better", x.when(4, 10), -1);
        Check.bad("when(0, 0)", x, () -> x.when(0, 0));
        Check.bad("when(0, 31)", x, () -> x.when(0, 31));
        Check.bad("when(5, 1)", x, () -> x.when(5, 1));
        Check.bad("when(-1, 1)", x, () -> x.when(-1, 1));
    }

    private static void waits() {
        PledgeWindow x = new PledgeWindow();
        for (int h = 0; h < 4; h++) {
            x.hearer(0, 5);
        }
        x.buyer(99);
        x.promise(0, 5);
        x.promise(0, 5);
        x.promise(0, 9);
        Check.asks("waits()", x, 15, x::waits);
        x.buys(0, 0);
        Check.asks("waits(), one HELD", x, 15, x::waits);
        x.keeps(0, 2);
        Check.asks("waits(), KEPT to 2", x, 11, x::waits);
        x.buys(0, 1);
        x.keeps(1, 0);
        Check.asks("waits(), KEPT to 0", x, 10, x::waits);
        x.undo();
        Check.asks("waits(), undone", x, 11, x::waits);
    }

    private static void fit() {
        PledgeWindow x = new PledgeWindow();
        Check.asks("fit(NONE) of nothing", x, 0, () -> x.fit(-1));
        Check.refused("fit(0) of nothing", x, 0, -10, () -> x.fit(0));
        x.promise(0, 4);
        x.promise(0, 9);
        Check.asks("fit(NONE) for nobody", x, 0, () -> x.fit(-1));
        x.hearer(0, 6);
        x.hearer(0, 1);
        // the best for HEARER 0 alone (4, by PROMISE 0) would leave 1 without any JOY
        Check.asks("fit(NONE)", x, 6, () -> x.fit(-1));
        Check.asks("fit(0)", x, 1, () -> x.fit(0));
        Check.asks("fit(1)", x, 0, () -> x.fit(1));
        Check.refused("fit(2)", x, 0, -10, () -> x.fit(2));
        Check.refused("fit(-2)", x, 0, -10, () -> x.fit(-2));
    }

    private static void fitFirstWay() {
        PledgeWindow x = new PledgeWindow();
        x.promise(0, 5);
        x.promise(0, 3);
        x.hearer(0, 5);
        x.hearer(0, 5);
        Check.due("two alike: JOY", x.fit(-1), 10);
        Check.due("two alike: the first", x.fit(0), 0);
        Check.due("two alike: the second", x.fit(1), 1);
        PledgeWindow y = new PledgeWindow();
        y.promise(0, 5);
        y.hearer(0, 5);
        y.hearer(0, 5);
        y.hearer(4, 5);
        Check.due("one for three: JOY", y.fit(-1), 6);
        Check.due("none comes first", y.fit(0), -1);
        Check.due("none comes second", y.fit(1), -1);
        Check.due("the third has it", y.fit(2), 0);
        y.promise(0, 5);
        Check.due("two for three: JOY", y.fit(-1), 12);
        Check.due("none", y.fit(0), -1);
        Check.due("the lower one", y.fit(1), 0);
        Check.due("the other one", y.fit(2), 1);
        PledgeWindow z = new PledgeWindow();
        z.promise(2, 1);
        z.hearer(0, 9);
        z.hearer(2, 9);
        Check.due("no JOY is none at all: JOY", z.fit(-1), 3);
        Check.due("no JOY is none at all", z.fit(0), -1);
        Check.due("a MOTHER has some", z.fit(1), 0);
    }

    private static void fitOfWindowOnly() {
        PledgeWindow x = new PledgeWindow();
        x.promise(0, 5);
        x.promise(0, 5);
        x.promise(0, 6);
        x.hearer(0, 5);
        x.buyer(99);
        x.buys(0, 0);
        x.buys(0, 1);
        x.keeps(1, 0);
        Check.due("IN THE WINDOW: JOY", x.fit(-1), 5);
        Check.due("whoever waits or not", x.fit(0), 2);
        x.buys(0, 2);
        Check.due("nothing IN THE WINDOW: JOY", x.fit(-1), 0);
        Check.due("nothing IN THE WINDOW", x.fit(0), -1);
    }

    private static void buyIs(PledgeWindow x, int b, int h, int much, int bits) {
        Check.asks("buy(" + b + ", " + h + ", 0)", x, much, () -> x.buy(b, h, 0));
        Check.asks("buy(" + b + ", " + h + ", 1)", x, bits, () -> x.buy(b, h, 1));
    }

    private static void buy() {
        PledgeWindow x = new PledgeWindow();
        x.promise(0, 2);
        x.promise(0, 3);
        x.promise(0, 2);
        x.promise(0, 9);
        x.hearer(0, 3);
        x.buyer(7);
        x.buyer(10);
        x.buyer(12);
        // PRICES 5, 7, 5, 19; JOYS 5, 6, 5, 0
        buyIs(x, 0, 0, 6, 2);
        buyIs(x, 1, 0, 10, 5);
        buyIs(x, 2, 0, 11, 3);
        x.hearer(4, 3);
        // DEAF: nothing here is 4 good but what is 9, and that is 0 JOY
        buyIs(x, 2, 1, 0, 0);
        x.hearer(2, 9);
        // MOTHER: 3 of each
        buyIs(x, 0, 2, 3, 1);
        buyIs(x, 2, 2, 6, 3);
        PledgeWindow y = new PledgeWindow();
        y.promise(0, 3);
        y.promise(0, 1);
        y.promise(0, 5);
        y.hearer(0, 3);
        y.buyer(99);
        y.buyer(6);
        buyIs(y, 0, 0, 14, 7);
        buyIs(y, 1, 0, 4, 2);
        y.buys(0, 0);
        buyIs(y, 0, 0, 8, 6);
        PledgeWindow z = new PledgeWindow();
        z.hearer(0, 1);
        z.buyer(9);
        buyIs(z, 0, 0, 0, 0);
        z.promise(0, 7);
        z.promise(4, 5);
        z.promise(0, 6);
        z.buyer(99);
        // a JOY of 1 is better than none, but the PURSE of 9 holds just the SHIP
        buyIs(z, 0, 0, 5, 2);
        z.days(7);
        buyIs(z, 0, 0, 0, 0);
        buyIs(z, 1, 0, 1, 4);
    }

    private static void buyBad() {
        PledgeWindow x = new PledgeWindow();
        Check.bad("buy(0, 0, 0) of nobody", x, () -> x.buy(0, 0, 0));
        x.buyer(1);
        Check.bad("buy(0, 0, 0) for nobody", x, () -> x.buy(0, 0, 0));
        x.hearer(0, 1);
        Check.bad("buy(1, 0, 0)", x, () -> x.buy(1, 0, 0));
        Check.bad("buy(-1, 0, 0)", x, () -> x.buy(-1, 0, 0));
        Check.bad("buy(0, 1, 0)", x, () -> x.buy(0, 1, 0));
        Check.bad("buy(0, -1, 0)", x, () -> x.buy(0, -1, 0));
        Check.bad("buy(0, 0, 2)", x, () -> x.buy(0, 0, 2));
        Check.bad("buy(0, 0, -1)", x, () -> x.buy(0, 0, -1));
    }

    private static void cheap() {
        PledgeWindow x = new PledgeWindow();
        Check.asks("cheap() of nobody", x, 0, x::cheap);
        x.hearer(0, 9);
        Check.asks("cheap() of nothing", x, -1, x::cheap);
        x.promise(0, 3);
        Check.asks("one that makes no JOY", x, -1, x::cheap);
        x.promise(0, 6);
        Check.asks("one that makes some", x, 13, x::cheap);
        x.promise(0, 4);
        Check.asks("a cheaper one", x, 9, x::cheap);
        x.hearer(0, 3);
        Check.asks("two HEARERS", x, 16, x::cheap);
        x.hearer(4, 3);
        // DEAF: the one of 4 for him, so the one of 6 for HEARER 0
        Check.asks("three HEARERS", x, 29, x::cheap);
        x.hearer(1, 1);
        Check.asks("four for three PROMISES", x, -1, x::cheap);
        x.promise(0, 1);
        Check.asks("four for four", x, 32, x::cheap);
    }

    private static void cheapOfWhoWaits() {
        PledgeWindow x = new PledgeWindow();
        x.promise(0, 3);
        x.promise(0, 5);
        x.promise(0, 9);
        x.hearer(2, 9);
        x.hearer(0, 9);
        x.buyer(99);
        Check.due("both wait", x.cheap(), 18);
        x.buys(0, 0);
        Check.due("one is HELD", x.cheap(), 30);
        x.keeps(0, 0);
        Check.due("one is KEPT", x.cheap(), 11);
        x.buys(0, 1);
        x.keeps(1, 1);
        Check.due("nobody waits", x.cheap(), 0);
        x.undo();
        x.buys(0, 2);
        Check.due("nothing IN THE WINDOW", x.cheap(), -1);
    }
}
