/** Promises 9 to 15: days, buying, keeping, undoing, and what each one is then. */
public final class DaysTest {
    private DaysTest() {
    }

    public static void main(String[] args) {
        days();
        lastDay();
        buys();
        keeps();
        undo();
        undoGivesBackJoy();
        undoEightAtMost();
        undoLeavesHints();
        of();
        about();
        purse();
        Check.end();
    }

    private static void days() {
        PledgeWindow x = new PledgeWindow();
        x.promise(0, 5);
        x.promise(0, 5);
        x.promise(0, 5);
        x.hearer(0, 5);
        x.buyer(100);
        Check.bad("days(0)", x, () -> x.days(0));
        Check.bad("days(100)", x, () -> x.days(100));
        Check.bad("days(-1)", x, () -> x.days(-1));
        Check.due("nothing to undo behind bad ones", x.count(10), 0);
        Check.due("days(1)", x.days(1), 1);
        x.buys(0, 0);
        Check.due("days(2)", x.days(2), 3);
        x.buys(0, 1);
        x.keeps(1, 0);
        Check.due("days(99)", x.days(99), 102);
        Check.due("the HELD one is worn no more", x.of(0, 2), 1);
        Check.due("the KEPT one is worn no more", x.of(1, 2), 3);
        Check.due("the one IN THE WINDOW is", x.of(2, 2), 102);
        Check.due("count(3)", x.count(3), 102);
        Check.due("together one", x.count(10), 6);
        Check.due("undo()", x.undo(), 3);
        Check.due("lain then", x.of(2, 2), 3);
        x.promise(0, 1);
        x.days(4);
        Check.due("one that came later", x.of(3, 2), 4);
    }

    private static void lastDay() {
        PledgeWindow x = new PledgeWindow();
        x.promise(1, 5);
        for (int i = 1; i <= 100; i++) {
            Check.due("days(99)", x.days(99), 99 * i);
        }
        Check.due("days(98)", x.days(98), 9998);
        Check.due("days(99) at 9998", x.days(99), 9999);
        Check.due("lain", x.of(0, 2), 9999);
        Check.due("days(1) at 9999", x.days(1), 9999);
        Check.due("lain still", x.of(0, 2), 9999);
        Check.due("days(99) at 9999", x.days(99), 9999);
        Check.due("eight to undo", x.count(10), 8);
        Check.due("undo() of none", x.undo(), 9999);
        Check.due("undo() of none", x.undo(), 9999);
        Check.due("undo() of one day", x.undo(), 9998);
        Check.due("lain before", x.of(0, 2), 9998);
        Check.due("undo() of 98", x.undo(), 9900);
        Check.due("good beyond the last day", x.good(0, 60), 10);
    }

    private static void buys() {
        PledgeWindow x = new PledgeWindow();
        Check.bad("nobody, nothing", x, () -> x.buys(0, 0));
        x.promise(1, 5);
        Check.bad("nobody", x, () -> x.buys(0, 0));
        x.buyer(24);
        x.buyer(999);
        x.promise(2, 9);
        Check.bad("BUYER 2", x, () -> x.buys(2, 0));
        Check.bad("BUYER -1", x, () -> x.buys(-1, 0));
        Check.bad("PROMISE 2", x, () -> x.buys(0, 2));
        Check.bad("PROMISE -1", x, () -> x.buys(0, -1));
        x.days(10);
        // GOLD of 5 is 6 good behind 10 DAYS, so its PRICE is 13; TIN of 9 is 7 good, so 15
        Check.due("buys(0, 0)", x.buys(0, 0), 11);
        Check.due("place", x.of(0, 3), 1);
        Check.due("PURSE", x.purse(0, 0), 11);
        Check.no("less than the PRICE", x, () -> x.buys(0, 1));
        Check.no("one that the same BUYER holds", x, () -> x.buys(0, 0));
        Check.no("one that another BUYER holds", x, () -> x.buys(1, 0));
        Check.due("buys(1, 1)", x.buys(1, 1), 984);
        Check.due("place of 1", x.of(1, 3), 2);
        Check.due("IN THE WINDOW", x.count(4), 0);
        Check.due("HELD by 0", x.purse(0, 1), 1);
        Check.due("HELD by 1", x.purse(1, 1), 2);
        x.hearer(0, 1);
        x.keeps(0, 0);
        Check.no("one that is KEPT", x, () -> x.buys(1, 0));
        Check.due("what may be undone", x.count(10), 1);
        x.promise(0, 5);
        x.promise(0, 5);
        Check.due("a PURSE that just holds it", x.buys(0, 2), 0);
        Check.no("an empty PURSE", x, () -> x.buys(0, 3));
    }

    private static void keeps() {
        PledgeWindow x = new PledgeWindow();
        Check.bad("nothing, nobody", x, () -> x.keeps(0, 0));
        x.promise(1, 5);
        Check.bad("nobody", x, () -> x.keeps(0, 0));
        x.hearer(1, 5);
        x.hearer(5, 5);
        x.promise(0, 1);
        x.buyer(900);
        Check.bad("PROMISE 2", x, () -> x.keeps(2, 0));
        Check.bad("PROMISE -1", x, () -> x.keeps(-1, 0));
        Check.bad("HEARER 2", x, () -> x.keeps(0, 2));
        Check.bad("HEARER -1", x, () -> x.keeps(0, -1));
        Check.no("one IN THE WINDOW", x, () -> x.keeps(0, 0));
        x.days(20);
        x.buys(0, 0);
        x.days(50);
        // 7 good when it was bought, and worn no more: a BRIDE who wants 5 has 4 and 2 of it
        Check.due("keeps(0, 0)", x.keeps(0, 0), 6);
        Check.due("JOY", x.count(6), 6);
        Check.due("KEPT", x.count(5), 1);
        Check.due("place", x.of(0, 3), 10);
        Check.due("HELD no more", x.purse(0, 1), 0);
        Check.due("PURSE as before", x.purse(0, 0), 885);
        Check.no("one that is KEPT", x, () -> x.keeps(0, 1));
        Check.no("one that is KEPT to him", x, () -> x.keeps(0, 0));
        x.buys(0, 1);
        // a KEEPER who wants 5 has twice 3 of what is 1 good
        Check.due("keeps(1, 1)", x.keeps(1, 1), 6);
        Check.due("JOY of all", x.count(6), 12);
        Check.due("place of 1", x.of(1, 3), 11);
        x.promise(0, 5);
        x.buys(0, 2);
        Check.due("a second one to one HEARER", x.keeps(2, 1), 12);
        Check.due("KEPT to 1", x.about(1, 2), 6);
        Check.due("KEPT", x.count(5), 3);
    }

    private static void undo() {
        PledgeWindow x = new PledgeWindow();
        x.promise(1, 9);
        x.promise(2, 9);
        x.hearer(0, 9);
        x.buyer(100);
        long first = x.digest();
        x.days(10);
        long second = x.digest();
        x.buys(0, 0);
        long third = x.digest();
        Check.no("a step refused", x, () -> x.buys(0, 0));
        Check.bad("a step that is bad", x, () -> x.keeps(0, 5));
        x.keeps(0, 0);
        Check.due("three to undo", x.count(10), 3);
        Check.due("JOY", x.count(6), 5);
        Check.due("undo() of KEEPING", x.undo(), 10);
        Check.due("as it was", x.digest(), third);
        Check.due("JOY then", x.count(6), 0);
        Check.due("HELD again", x.purse(0, 1), 1);
        Check.due("undo() of BUYING", x.undo(), 10);
        Check.due("as it was", x.digest(), second);
        Check.due("PURSE then", x.purse(0, 0), 100);
        Check.due("undo() of DAYS", x.undo(), 0);
        Check.due("as at first", x.digest(), first);
        Check.no("undo() of nothing", x, x::undo);
        x.days(10);
        Check.due("the same again", x.digest(), second);
        x.buys(0, 1);
        x.days(30);
        Check.due("HELD, not worn", x.of(1, 2), 10);
        x.undo();
        x.undo();
        Check.due("the same again", x.digest(), second);
    }

    private static void undoGivesBackJoy() {
        PledgeWindow x = new PledgeWindow();
        x.promise(0, 5);
        x.promise(0, 7);
        x.promise(0, 4);
        x.hearer(0, 5);
        x.buyer(0);
        x.buyer(0);
        x.buyer(99);
        x.buys(2, 0);
        x.buys(2, 1);
        x.buys(2, 2);
        // the third BUYER keeps what he HOLDS just as any other
        Check.due("keeps(0, 0)", x.keeps(0, 0), 6);
        Check.due("keeps(1, 0)", x.keeps(1, 0), 4);
        Check.due("keeps(2, 0)", x.keeps(2, 0), 5);
        x.days(1);
        Check.due("JOY of all", x.count(6), 15);
        x.undo();
        Check.due("JOY behind undone DAYS", x.count(6), 15);
        x.undo();
        Check.due("JOY behind one undone", x.count(6), 10);
        Check.due("HELD by the third BUYER again", x.of(2, 3), 3);
        x.undo();
        Check.due("JOY behind two undone", x.count(6), 6);
        Check.due("KEPT then", x.about(0, 2), 1);
        x.undo();
        Check.due("JOY behind three undone", x.count(6), 0);
        x.undo();
        Check.due("PURSE then", x.purse(2, 0), 73);
        Check.due("IN THE WINDOW again", x.of(2, 3), 0);
    }

    private static void undoEightAtMost() {
        PledgeWindow x = new PledgeWindow();
        x.promise(0, 9);
        for (int i = 1; i <= 11; i++) {
            x.days(i);
            Check.due("what may be undone", x.count(10), Math.min(i, 8));
        }
        int[] due = {55, 45, 36, 28, 21, 15, 10, 6};
        for (int i = 0; i < 8; i++) {
            Check.due("undo() " + i, x.undo(), due[i]);
            Check.due("lain", x.of(0, 2), due[i]);
            Check.due("what may be undone then", x.count(10), 7 - i);
        }
        Check.no("a ninth", x, x::undo);
        Check.due("days behind it", x.days(1), 7);
        Check.due("undo() of them", x.undo(), 6);
    }

    private static void undoLeavesHints() {
        PledgeWindow x = new PledgeWindow();
        x.promise(0, 9);
        x.hearer(0, 9);
        x.days(1);
        x.seen(1, 9);
        x.note(0, 9, 1, 9);
        x.mark(0, 9, 9, 6);
        x.redeemed(5);
        x.type(32);
        x.undo();
        Check.due("SEEN", x.count(7), 1);
        Check.due("NOTES", x.count(8), 1);
        Check.due("MARKS", x.count(9), 1);
        Check.due("THE TEXT", x.count(11), 1);
        Check.due("THE FRACTION", x.part(0), 19);
    }

    private static void of() {
        PledgeWindow x = new PledgeWindow();
        Check.bad("of(0, 0) of none", x, () -> x.of(0, 0));
        x.promise(5, 7);
        x.promise(3, 2);
        x.hearer(0, 1);
        x.hearer(0, 1);
        x.buyer(0);
        x.buyer(200);
        x.days(23);
        int[] due = {5, 7, 23, 0, 18, 37};
        for (int what = 0; what < 6; what++) {
            int asked = what;
            Check.asks("of(0, " + what + ")", x, due[what], () -> x.of(0, asked));
        }
        x.buys(1, 0);
        x.days(40);
        Check.due("HELD by 1", x.of(0, 3), 2);
        Check.due("lain, HELD", x.of(0, 2), 23);
        Check.due("GOOD, HELD", x.of(0, 4), 18);
        Check.due("PRICE, HELD", x.of(0, 5), 37);
        x.keeps(0, 1);
        Check.due("KEPT to 1", x.of(0, 3), 11);
        Check.due("GOOD, KEPT", x.of(0, 4), 18);
        Check.due("a CHILD'S one", x.of(1, 4), 2);
        Check.due("its PRICE", x.of(1, 5), 5);
        Check.bad("of(0, 6)", x, () -> x.of(0, 6));
        Check.bad("of(0, -1)", x, () -> x.of(0, -1));
        Check.bad("of(2, 0)", x, () -> x.of(2, 0));
        Check.bad("of(-1, 0)", x, () -> x.of(-1, 0));
    }

    private static void about() {
        PledgeWindow x = new PledgeWindow();
        Check.bad("about(0, 0) of none", x, () -> x.about(0, 0));
        x.hearer(3, 8);
        x.hearer(4, 2);
        x.buyer(900);
        x.promise(0, 1);
        x.promise(0, 1);
        x.promise(0, 1);
        x.buys(0, 0);
        x.buys(0, 2);
        x.keeps(0, 1);
        x.keeps(2, 1);
        Check.asks("KIND", x, 3, () -> x.about(0, 0));
        Check.asks("WANT", x, 8, () -> x.about(0, 1));
        Check.asks("KEPT", x, 0, () -> x.about(0, 2));
        Check.due("KIND of 1", x.about(1, 0), 4);
        Check.due("WANT of 1", x.about(1, 1), 2);
        Check.due("KEPT to 1", x.about(1, 2), 5);
        Check.bad("about(0, 3)", x, () -> x.about(0, 3));
        Check.bad("about(0, -1)", x, () -> x.about(0, -1));
        Check.bad("about(2, 0)", x, () -> x.about(2, 0));
        Check.bad("about(-1, 0)", x, () -> x.about(-1, 0));
    }

    private static void purse() {
        PledgeWindow x = new PledgeWindow();
        Check.bad("purse(0, 0) of none", x, () -> x.purse(0, 0));
        x.buyer(20);
        x.buyer(30);
        x.hearer(0, 1);
        x.promise(0, 1);
        x.promise(0, 2);
        x.promise(0, 3);
        x.buys(1, 0);
        x.buys(1, 1);
        x.buys(0, 2);
        Check.asks("PURSE", x, 13, () -> x.purse(0, 0));
        Check.asks("HELD", x, 4, () -> x.purse(0, 1));
        Check.due("PURSE of 1", x.purse(1, 0), 22);
        Check.due("HELD by 1", x.purse(1, 1), 3);
        x.keeps(1, 0);
        Check.due("HELD by 1 still", x.purse(1, 1), 1);
        Check.bad("purse(0, 2)", x, () -> x.purse(0, 2));
        Check.bad("purse(0, -1)", x, () -> x.purse(0, -1));
        Check.bad("purse(2, 0)", x, () -> x.purse(2, 0));
        Check.bad("purse(-1, 0)", x, () -> x.purse(-1, 0));
    }
}
