/** Promises 1 to 8: a new object, a town as it comes and as a text tells it. */
public final class TownTest {
    private TownTest() {
    }

    public static void main(String[] args) {
        newObject();
        constants();
        town();
        promise();
        hearer();
        buyer();
        comingEndsUndo();
        type();
        clear();
        readsAll();
        readsTokens();
        readFaultsOfWords();
        readFaultsOfNumbers();
        readFaultsOfTheTown();
        readTooEarly();
        readLeavesAllAtFault();
        readTakesThePlace();
        Check.end();
    }

    private static void newObject() {
        PledgeWindow x = new PledgeWindow();
        Check.due("digest of nothing", x.digest(),
                Check.digest(0, 0, 0, 0, 0, 0, 0, 0, 0, 0, 0, 0, 0, 1));
        for (int what = 0; what <= 11; what++) {
            Check.due("new: count(" + what + ")", x.count(what), 0);
        }
        for (int what = 0; what <= 2; what++) {
            Check.due("new: status(" + what + ")", x.status(what), 0);
        }
        Check.due("new: part(0)", x.part(0), 0);
        Check.due("new: part(1)", x.part(1), 1);
        Check.due("new: waits()", x.waits(), 0);
        Check.no("new: from(0)", x, () -> x.from(0));
        Check.no("new: from(1)", x, () -> x.from(1));
        Check.no("new: undo()", x, x::undo);
        Check.due("new: status(1)", x.status(1), 3);
        Check.due("another new one: status(1)", new PledgeWindow().status(1), 0);
    }

    private static void constants() {
        Check.due("NONE", PledgeWindow.NONE, -1);
        Check.due("BAD", PledgeWindow.BAD, -2);
        Check.due("NO", PledgeWindow.NO, -3);
        Check.due("FULL", PledgeWindow.FULL, -4);
    }

    private static void town() {
        PledgeWindow x = new PledgeWindow();
        Check.due("town() of nothing", x.town(), 0);
        x.promise(0, 4);
        x.promise(1, 5);
        x.hearer(0, 4);
        x.buyer(50);
        x.days(3);
        x.buys(0, 0);
        x.keeps(0, 0);
        x.seen(1, 2);
        x.note(0, 1, 2, 3);
        x.mark(0, 1, 2, 3);
        x.redeemed(1);
        x.image(1);
        x.promise(9, 9);
        Check.type(x, "tow");
        Check.due("town()", x.town(), 2);
        for (int what = 0; what <= 10; what++) {
            Check.due("town(), then count(" + what + ")", x.count(what), 0);
        }
        Check.due("THE TEXT behind town()", x.count(11), 3);
        Check.due("THE FRACTION behind town(), above", x.part(0), 99);
        Check.due("THE FRACTION behind town(), below", x.part(1), 10);
        Check.due("STATUS behind town()", x.status(0), 1);
        Check.no("undo() behind town()", x, x::undo);
        Check.due("a PROMISE behind town()", x.promise(0, 4), 0);
        Check.due("where it is", x.of(0, 3), 0);
        Check.due("how long it has lain", x.of(0, 2), 0);
        Check.due("a HEARER behind town()", x.hearer(0, 1), 0);
        Check.due("waits() behind town()", x.waits(), 1);
        Check.due("is() behind town()", x.is(0), 63);
        Check.due("an IMAGE behind town()", x.from(1), 1);
        Check.due("what it holds", x.count(0), 2);
        Check.due("what may be undone there", x.count(10), 3);
    }

    private static void promise() {
        PledgeWindow x = new PledgeWindow();
        Check.bad("kind -1", x, () -> x.promise(-1, 5));
        Check.bad("kind 6", x, () -> x.promise(6, 5));
        Check.bad("worth 0", x, () -> x.promise(0, 0));
        Check.bad("worth 10", x, () -> x.promise(0, 10));
        Check.bad("kind least of all", x, () -> x.promise(Integer.MIN_VALUE, 1));
        Check.bad("worth most of all", x, () -> x.promise(0, Integer.MAX_VALUE));
        int[] kinds = {0, 1, 2, 3, 4, 5, 0};
        int[] worths = {1, 9, 2, 8, 3, 7, 5};
        for (int p = 0; p < 7; p++) {
            Check.due("promise " + p, x.promise(kinds[p], worths[p]), p);
            Check.due("count(0)", x.count(0), p + 1);
            Check.due("count(4)", x.count(4), p + 1);
            x.days(1);
        }
        for (int p = 0; p < 7; p++) {
            Check.due("KIND of " + p, x.of(p, 0), kinds[p]);
            Check.due("WORTH of " + p, x.of(p, 1), worths[p]);
            Check.due("lain of " + p, x.of(p, 2), 7 - p);
            Check.due("place of " + p, x.of(p, 3), 0);
        }
        Check.full("an 8th", x, () -> x.promise(0, 1));
        Check.bad("an 8th of no worth", x, () -> x.promise(0, 0));
        Check.bad("an 8th of no kind", x, () -> x.promise(6, 1));
    }

    private static void hearer() {
        PledgeWindow x = new PledgeWindow();
        Check.bad("kind -1", x, () -> x.hearer(-1, 5));
        Check.bad("kind 6", x, () -> x.hearer(6, 5));
        Check.bad("want 0", x, () -> x.hearer(0, 0));
        Check.bad("want 10", x, () -> x.hearer(0, 10));
        int[] kinds = {5, 0, 3, 4};
        int[] wants = {1, 9, 4, 6};
        for (int h = 0; h < 4; h++) {
            Check.due("hearer " + h, x.hearer(kinds[h], wants[h]), h);
            Check.due("count(1)", x.count(1), h + 1);
        }
        for (int h = 0; h < 4; h++) {
            Check.due("KIND of " + h, x.about(h, 0), kinds[h]);
            Check.due("WANT of " + h, x.about(h, 1), wants[h]);
            Check.due("KEPT to " + h, x.about(h, 2), 0);
        }
        Check.full("a 5th", x, () -> x.hearer(0, 1));
        Check.bad("a 5th that wants nothing", x, () -> x.hearer(0, 0));
    }

    private static void buyer() {
        PledgeWindow x = new PledgeWindow();
        Check.bad("purse -1", x, () -> x.buyer(-1));
        Check.bad("purse 1000", x, () -> x.buyer(1000));
        Check.due("purse 0", x.buyer(0), 0);
        Check.due("purse 999", x.buyer(999), 1);
        Check.due("purse 100", x.buyer(100), 2);
        Check.due("what 0 has", x.purse(0, 0), 0);
        Check.due("what 1 has", x.purse(1, 0), 999);
        Check.due("what 2 has", x.purse(2, 0), 100);
        Check.due("count(2)", x.count(2), 3);
        Check.full("a 4th", x, () -> x.buyer(1));
        Check.bad("a 4th with a debt", x, () -> x.buyer(-1));
    }

    /** Behind a PROMISE, a HEARER, a BUYER nothing may be undone; a refused one does not come. */
    private static void comingEndsUndo() {
        PledgeWindow x = new PledgeWindow();
        x.days(1);
        x.promise(6, 1);
        x.hearer(6, 1);
        x.buyer(1000);
        Check.due("undone ones behind refused comers", x.count(10), 1);
        x.promise(0, 1);
        Check.due("behind a PROMISE", x.count(10), 0);
        Check.no("undo() behind a PROMISE", x, x::undo);
        x.days(1);
        x.hearer(0, 1);
        Check.due("behind a HEARER", x.count(10), 0);
        x.days(1);
        x.buyer(1);
        Check.due("behind a BUYER", x.count(10), 0);
        x.buyer(2);
        x.buyer(3);
        x.days(1);
        Check.full("a 4th BUYER", x, () -> x.buyer(4));
        Check.due("behind a BUYER who does not fit", x.count(10), 1);
        Check.due("undo() then", x.undo(), 3);
    }

    private static void type() {
        PledgeWindow x = new PledgeWindow();
        Check.bad("type(-1)", x, () -> x.type(-1));
        Check.bad("type(128)", x, () -> x.type(128));
        Check.due("type(0)", x.type(0), 1);
        Check.due("type(127)", x.type(127), 2);
        for (int n = 3; n <= 150; n++) {
            Check.due("byte " + n, x.type(32), n);
        }
        Check.full("byte 151", x, () -> x.type(32));
        Check.bad("byte 151, none", x, () -> x.type(128));
        Check.due("count(11)", x.count(11), 150);
    }

    private static void clear() {
        PledgeWindow x = new PledgeWindow();
        Check.due("clear() of none", x.clear(), 0);
        Check.type(x, "town;");
        Check.due("clear()", x.clear(), 5);
        Check.due("count(11)", x.count(11), 0);
        Check.due("clear() again", x.clear(), 0);
        Check.due("read() of none", x.read(), -10);
        Check.type(x, "town;buyer 9;");
        Check.due("read() of another", x.read(), 2);
    }

    private static int read(PledgeWindow x, String text) {
        Check.type(x, text);
        return x.read();
    }

    private static void readsAll() {
        PledgeWindow x = new PledgeWindow();
        Check.due("a town", read(x, "town;promise 1 7;promise 2 6;days 10;promise 0 3;hearer 0 8;"
                + "hearer 1 3;buyer 30;buyer 99;buy 0 0;buy 1 1;keep 0 0;days 7;"), 13);
        Check.due("PROMISES", x.count(0), 3);
        Check.due("HEARERS", x.count(1), 2);
        Check.due("BUYERS", x.count(2), 2);
        Check.due("the DAY", x.count(3), 17);
        Check.due("IN THE WINDOW", x.count(4), 1);
        Check.due("KEPT", x.count(5), 1);
        // GOLD of 7 behind 10 days is 8 good, just as hearer 0 wants
        Check.due("JOY", x.count(6), 6);
        Check.due("what may be undone", x.count(10), 0);
        Check.due("place of 0", x.of(0, 3), 10);
        Check.due("place of 1", x.of(1, 3), 2);
        Check.due("place of 2", x.of(2, 3), 0);
        Check.due("lain of 0", x.of(0, 2), 10);
        Check.due("lain of 1", x.of(1, 2), 10);
        Check.due("lain of 2", x.of(2, 2), 7);
        // 30 less a PRICE of 17; 99 less a PRICE of 9, TIN of 6 being 4 good
        Check.due("PURSE of 0", x.purse(0, 0), 13);
        Check.due("PURSE of 1", x.purse(1, 0), 90);
        Check.due("HELD by 1", x.purse(1, 1), 2);
        Check.due("HELD by 0", x.purse(0, 1), 0);
        Check.due("KEPT to 0", x.about(0, 2), 1);
    }

    private static void readsTokens() {
        PledgeWindow x = new PledgeWindow();
        Check.due("just a town", read(x, "town;"), 1);
        Check.due("blanks all round", read(x, "  town  ;  promise  05  09  ;  "), 2);
        Check.due("KIND 05", x.of(0, 0), 5);
        Check.due("WORTH 09", x.of(0, 1), 9);
        Check.due("no blanks", read(x, "town;promise4 8;hearer3 7;buyer21;buy0 0;keep0 0;days99;"), 7);
        Check.due("the DAY of it", x.count(3), 99);
        Check.due("its PURSE", x.purse(0, 0), 20);
        Check.due("a long one", read(x, "town;promise 0 1;promise 0 1;promise 0 1;promise 0 1;"
                + "promise 0 1;promise 0 1;promise 0 1;hearer 0 1;hearer 0 1;hearer 0 1;hearer 0 1;days1;"),
                13);
        Check.due("its bytes", x.count(11), 139);
        StringBuilder most = new StringBuilder("town;");
        while (most.length() < 149) {
            most.append("days1;");
        }
        Check.due("a text of 149", read(x, most.toString()), 25);
        Check.due("its DAY", x.count(3), 24);
        Check.due("and a blank", x.type(32), 150);
        Check.due("all 150 read", x.read(), 25);
    }

    private static void fault(String text, int place) {
        faultOf(new PledgeWindow(), text, place);
    }

    private static void faultOf(PledgeWindow x, String text, int place) {
        Check.type(x, text);
        Check.asks("read() of \"" + text + "\"", x, -10 - place, x::read);
    }

    private static void readFaultsOfWords() {
        fault("city;", 0);
        fault("gown;", 0);
        fault("towm;", 0);
        fault("town;says 1;", 5);
        fault("town;dayz 1;", 5);
        fault("  city;", 2);
        fault("towns;", 0);
        fault("tow;", 0);
        fault("Town;", 0);
        fault("tOwn;", 0);
        fault("to wn;", 0);
        fault(";town;", 0);
        fault("7town;", 0);
        fault("days 1;town;", 0);
        fault("promise 0 1;", 0);
        fault("town;town;", 5);
        fault("town;days 1;town;", 12);
        fault("town;;", 5);
        fault("town town;", 5);
        fault("town 1;", 5);
        fault("town;day 1;", 5);
        fault("town;dayss 1;", 5);
        fault("town;1;", 5);
        fault("town;buyer 1;buys 0 0;", 13);
        fault("town;-", 5);
        fault("town;\t", 5);
        fault("town;" + (char) 0, 5);
        fault("town;" + (char) 127, 5);
        fault("town\n;", 4);
        fault("town;days 1,", 11);
        fault("town;`", 5);
        fault("town;{", 5);
        fault("town;days 1:", 11);
        fault("town;days /", 10);
    }

    private static void readFaultsOfNumbers() {
        PledgeWindow x = new PledgeWindow();
        fault("town;promise 6 1;", 13);
        fault("town;promise 10 1;", 13);
        fault("town;promise 0 0;", 15);
        fault("town;promise 0 10;", 15);
        fault("town;promise 0;", 14);
        fault("town;promise;", 12);
        fault("town;promise plain 1;", 13);
        fault("town;promise 0 1 2;", 17);
        fault("town;promise 001 1;", 13);
        fault("town;promise 0 001;", 15);
        fault("town;hearer 6 1;", 12);
        fault("town;hearer 0 0;", 14);
        fault("town;hearer 0 10;", 14);
        fault("town;buyer 100;", 11);
        fault("town;buyer 000;", 11);
        fault("town;buyer -1;", 11);
        fault("town;buyer 1 234;", 13);
        fault("town;days 0;", 10);
        fault("town;days 00;", 10);
        fault("town;days 100;", 10);
        fault("town;days 9999999999999999;", 10);
        fault("town;days 1 2;", 12);
        fault("town;days 1x;", 11);
        fault("town;days 1 days 2;", 12);
        Check.due("the most of numbers", read(x, "town;promise 5 9;hearer 5 9;buyer 99;days 99;"), 5);
        Check.due("the least of numbers", read(x, "town;promise 0 1;hearer 0 1;buyer 0;days 1;"), 5);
        Check.due("00 for 0", read(x, "town;promise 00 01;hearer 00 01;buyer 00;days 01;"), 5);
    }

    private static void readFaultsOfTheTown() {
        PledgeWindow x = new PledgeWindow();
        String seven = "town;promise 0 1;promise 0 1;promise 0 1;promise 0 1;promise 0 1;promise 0 1;"
                + "promise 0 1;";
        fault(seven + "promise 0 1;", 89);
        fault(seven + "promise;", 89);
        fault(seven + " promises", 90);
        String four = "town;hearer 0 1;hearer 0 1;hearer 0 1;hearer 0 1;";
        fault(four + "hearer 9 9;", 49);
        fault("town;buyer 1;buyer 1;buyer 1;buyer 1;", 29);
        fault("town;promise 0 1;buy 0 0;", 21);
        fault("town;buyer 3;buy 0 0;", 19);
        fault("town;buyer 3;promise 0 1;buy 1 0;", 29);
        fault("town;buyer 3;promise 0 1;buy 0 1;", 31);
        fault("town;buyer 2;promise 0 1;buy 0 0;", 31);
        fault("town;buyer 9;promise 0 1;buy 0 0;buy 0 0;", 39);
        fault("town;buyer 9;promise 0 1;hearer 0 1;keep 0 0;", 41);
        fault("town;buyer 9;promise 0 1;hearer 0 1;buy 0 0;keep 1 0;", 49);
        fault("town;buyer 9;promise 0 1;hearer 0 1;buy 0 0;keep 0 1;", 51);
        fault("town;buyer 9;promise 0 1;buy 0 0;keep 0 0;", 40);
        fault("town;buyer 9;promise 0 1;hearer 0 1;buy 0 0;keep 0 0;keep 0 0;", 58);
        fault("town;buyer 9;promise 0 1;hearer 0 1;buy 0 0;keep 0 0;buy 0 0;", 59);
        fault("town;buyer 9;promise 1 4;buy 0 0;promise 1 4;days 10;buy 0 1;", 59);
        Check.due("a PURSE that just holds it", read(x, "town;buyer 9;promise 1 4;buy 0 0;"), 4);
        Check.due("what it holds then", x.purse(0, 0), 0);
        // a SHIP is cheap ahead of its day, and dear from then on
        Check.due("a ship out", read(x, "town;buyer 1;promise 4 9;days 6;buy 0 0;"), 5);
        fault("town;buyer 1;promise 4 9;days 7;buy 0 0;", 38);
    }

    private static void readTooEarly() {
        fault("", 0);
        fault("   ", 3);
        fault("town", 4);
        fault("town  ", 6);
        fault("town;promise", 12);
        fault("town;promise 5", 14);
        fault("town;promise 5 ", 15);
        fault("town;promise 5 9", 16);
        fault("town;days 1", 11);
        fault("town;buy", 8);
        fault("town;keep", 9);
        fault("town;promise 0 1;buyer 9;buy 0", 30);
        fault("town;promise 0 1;buyer 9;hearer 0 1;buy 0 0;keep 0", 50);
        fault("town;promise 0 1;buyer 9;hearer 0 1;buy 0 0;keep 0 0", 52);
    }

    private static void readLeavesAllAtFault() {
        PledgeWindow x = new PledgeWindow();
        x.promise(1, 5);
        x.hearer(1, 5);
        x.buyer(50);
        x.days(4);
        x.seen(4, 5);
        x.note(0, 5, 4, 5);
        x.mark(0, 5, 5, 8);
        x.redeemed(5);
        faultOf(x, "town;promise 3 3;hearer 3 3;buyer 3;days 3;nothing", 43);
        Check.due("what may be undone stays", x.count(10), 1);
        Check.due("undo()", x.undo(), 0);
    }

    private static void readTakesThePlace() {
        PledgeWindow x = new PledgeWindow();
        x.promise(1, 5);
        x.promise(1, 5);
        x.hearer(1, 5);
        x.buyer(50);
        x.days(4);
        x.seen(4, 5);
        x.note(0, 5, 4, 5);
        x.mark(0, 5, 5, 8);
        x.redeemed(5);
        x.image(0);
        Check.bad("a bad one", x, () -> x.type(-1));
        Check.due("read()", read(x, "town;promise 3 3;"), 2);
        Check.due("digest behind read()", x.digest(),
                Check.digest(1, 0, 0, 0, 1, 0, 0, 0, 0, 0, 0, 17, 3, 3, 0, 0, 11, 1));
        Check.due("STATUS stays", x.status(0), 1);
        Check.no("nothing to undo", x, x::undo);
        Check.due("read() again", x.read(), 2);
        Check.due("PROMISES", x.count(0), 1);
        Check.due("THE IMAGE stays", x.from(0), 1);
        Check.due("PROMISES of the IMAGE", x.count(0), 2);
        Check.due("THE TEXT stays behind from()", x.count(11), 17);
    }
}
