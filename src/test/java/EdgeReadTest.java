import java.util.List;

/** The boundaries of promise 8: TEXTS as told just so, and those with a FAULT one step beyond. */
public final class EdgeReadTest {
    private EdgeReadTest() {
    }

    public static void main(String[] args) {
        townOnceFirstOfAll();
        oneHundredAndFiftyBytes();
        promiseNumbers();
        promiseEighth();
        hearerNumbers();
        hearerFifth();
        buyerNumbers();
        buyerFourth();
        daysNumbers();
        daysWhereTheyStand();
        buyBuyerThere();
        buyPromiseThere();
        buyInTheWindow();
        buyPurseHolds();
        keepHeld();
        keepHearerThere();
        wordsOfLetters();
        figuresOneOrTwo();
        blanksAnyNumber();
        blanksNeededBetween();
        everyByteBehindAWord();
        everyByteBehindANumber();
        everyByteBehindAnItem();
        everyWordAndItsNeighbours();
        semicolonEndsEach();
        endsTooEarly();
        firstFaultIsTold();
        faultLeavesAll();
        readTakesThePlaceOfAll();
        readLeavesImagesTextFractionStatus();
        Check.end();
    }

    private static PledgeWindow with(String text) {
        PledgeWindow x = Towns.some();
        Towns.type(x, text);
        return x;
    }

    /** Read: how many ITEMS; gives back what is there then. */
    private static PledgeWindow reads(String text, int items) {
        PledgeWindow x = with(text);
        Check.due("8: read() of \"" + text + "\"", x.read(), items);
        return x;
    }

    /** A FAULT at the place told, by which nothing is changed, STATUS neither. */
    private static void fault(String text, int place) {
        Edge.asks("8: read() of \"" + text + "\"", () -> with(text), -10 - place, x -> x.read());
    }

    private static void townOnceFirstOfAll() {
        PledgeWindow x = reads("town;", 1);
        Check.due("8: a bare town", x.count(0) + x.count(1) + x.count(2) + x.count(3), 0);
        fault("promise 0 1;", 0);
        fault("hearer 0 1;", 0);
        fault("buyer 0;", 0);
        fault("days 1;", 0);
        fault("buy 0 0;", 0);
        fault("keep 0 0;", 0);
        fault("promise 0 1;town;", 0);
        fault("town;town;", 5);
        fault("town;promise 0 1;town;", 17);
        fault(";town;", 0);
        fault("1town;", 0);
        fault("001town;", 0);
    }

    private static String repeat(String item, int times) {
        return item.repeat(times);
    }

    private static void oneHundredAndFiftyBytes() {
        String most = "town;" + repeat("days1;", 23) + "days 1;";
        Check.due("8: bytes of it", most.length(), 150);
        PledgeWindow x = reads(most, 25);
        Check.due("8: the last ITEM counts", x.count(3), 24);
        Check.due("8: its bytes", x.count(11), 150);
        reads("town;" + repeat("days1;", 24), 25);
        reads("town;" + repeat("days1;", 24) + " ", 25);
        // the 150th byte is a word of its own, none is cut off
        fault("town;" + repeat("days1;", 24) + "d", 149);
        fault("town;" + repeat("days1;", 24) + "1", 149);
        fault("town;" + repeat("days1;", 24) + ";", 149);
        fault("town;" + repeat("days1;", 23) + "days 12", 150);
        fault("town;" + repeat("days1;", 23) + "promise", 150);
        fault(repeat(" ", 150), 150);
        fault("town" + repeat(" ", 146), 150);
        reads("town" + repeat(" ", 145) + ";", 1);
        // what did not fit did not come, so it is not read
        PledgeWindow y = with("town;" + repeat("days1;", 23) + "days 12");
        Check.due("8: a 151st byte", y.type(';'), -4);
        Check.due("8: it is not there", y.read(), -160);
    }

    private static void promiseNumbers() {
        PledgeWindow x = reads("town;promise 0 1;promise 5 9;", 3);
        Check.due("8: KIND 0", x.of(0, 0), 0);
        Check.due("8: WORTH 1", x.of(0, 1), 1);
        Check.due("8: KIND 5", x.of(1, 0), 5);
        Check.due("8: WORTH 9", x.of(1, 1), 9);
        fault("town;promise 6 1;", 13);
        fault("town;promise 99 1;", 13);
        fault("town;promise 0 0;", 15);
        fault("town;promise 0 10;", 15);
        fault("town;promise 0;", 14);
        fault("town;promise;", 12);
        fault("town;promise 0 1 1;", 17);
    }

    private static void promiseEighth() {
        String six = "town;" + repeat("promise 2 3;", 6);
        PledgeWindow x = reads(six + "promise 5 9;", 8);
        Check.due("8: seven PROMISES", x.count(0), 7);
        Check.due("8: KIND of the 7th", x.of(6, 0), 5);
        fault(six + "promise 5 9;promise 5 9;", 89);
        fault(six + "promise 5 9;  promise", 91);
        fault(six + "promise 5 9;promise 6 0;", 89);
        // all else may still come behind seven
        reads(six + "promise 5 9;hearer 0 1;buyer 9;days 1;", 11);
    }

    private static void hearerNumbers() {
        PledgeWindow x = reads("town;hearer 0 1;hearer 5 9;", 3);
        Check.due("8: KIND 0", x.about(0, 0), 0);
        Check.due("8: WANT 1", x.about(0, 1), 1);
        Check.due("8: KIND 5", x.about(1, 0), 5);
        Check.due("8: WANT 9", x.about(1, 1), 9);
        fault("town;hearer 6 1;", 12);
        fault("town;hearer 99 1;", 12);
        fault("town;hearer 0 0;", 14);
        fault("town;hearer 0 10;", 14);
        fault("town;hearer 0;", 13);
        fault("town;hearer;", 11);
        fault("town;hearer 0 1 1;", 16);
    }

    private static void hearerFifth() {
        String three = "town;" + repeat("hearer 2 3;", 3);
        PledgeWindow x = reads(three + "hearer 5 9;", 5);
        Check.due("8: four HEARERS", x.count(1), 4);
        Check.due("8: KIND of the 4th", x.about(3, 0), 5);
        fault(three + "hearer 5 9;hearer 5 9;", 49);
        fault(three + "hearer 5 9;hearer", 49);
        fault(three + "hearer 5 9;hearer 6 0;", 49);
    }

    private static void buyerNumbers() {
        PledgeWindow x = reads("town;buyer 0;buyer 99;", 3);
        Check.due("8: PURSE 0", x.purse(0, 0), 0);
        Check.due("8: PURSE 99", x.purse(1, 0), 99);
        fault("town;buyer 100;", 11);
        fault("town;buyer 999;", 11);
        fault("town;buyer;", 10);
        fault("town;buyer 1 1;", 13);
    }

    private static void buyerFourth() {
        String two = "town;" + repeat("buyer 7;", 2);
        PledgeWindow x = reads(two + "buyer 8;", 4);
        Check.due("8: three BUYERS", x.count(2), 3);
        Check.due("8: PURSE of the 3rd", x.purse(2, 0), 8);
        fault(two + "buyer 8;buyer 9;", 29);
        fault(two + "buyer 8;buyer", 29);
        fault(two + "buyer 8;buyer 100;", 29);
    }

    private static void daysNumbers() {
        Check.due("8: one DAY", reads("town;days 1;", 2).count(3), 1);
        Check.due("8: 99 DAYS", reads("town;days 99;", 2).count(3), 99);
        Check.due("8: 99 and 99", reads("town;days 99;days 99;", 3).count(3), 198);
        fault("town;days 0;", 10);
        fault("town;days 00;", 10);
        fault("town;days 100;", 10);
        fault("town;days;", 9);
        fault("town;days 1 1;", 12);
        // the most that one TEXT can tell: 20 times 99
        Check.due("8: the last DAY of a TEXT", reads("town;" + repeat("days99;", 20), 21).count(3), 1980);
    }

    private static void daysWhereTheyStand() {
        PledgeWindow x = reads("town;buyer 99;promise 4 1;days 6;buy 0 0;days 1;promise 4 1;days 1;", 8);
        Check.due("8: HELD, it has lain as long as it had", x.of(0, 2), 6);
        Check.due("8: for the PRICE of that DAY", x.purse(0, 0), 98);
        Check.due("8: the other one since it came", x.of(1, 2), 1);
        Check.due("8: the DAY", x.count(3), 8);
        PledgeWindow y = reads("town;buyer 99;promise 4 1;days 7;buy 0 0;hearer 0 4;keep 0 0;days 9;", 8);
        Check.due("8: a DAY later it is 4 GOOD", y.of(0, 4), 4);
        Check.due("8: and has its PRICE", y.purse(0, 0), 90);
        Check.due("8: the JOY of it", y.count(6), 6);
        Check.due("8: KEPT, it has lain as long as it had", y.of(0, 2), 7);
        Check.due("8: the DAY", y.count(3), 16);
    }

    private static void buyBuyerThere() {
        String town = "town;promise 0 1;buyer 9;buyer 9;";
        Check.due("8: BUYER 1 HOLDS it", reads(town + "buy 1 0;", 5).of(0, 3), 2);
        Check.due("8: BUYER 0 HOLDS it", reads(town + "buy 0 0;", 5).of(0, 3), 1);
        fault(town + "buy 2 0;", 37);
        fault(town + "buy 99 0;", 37);
        fault("town;promise 0 1;buy 0 0;", 21);
        fault("town;promise 0 1;buy 0 0;buyer 9;", 21);
        fault(town + "buy;", 36);
        fault(town + "buy 0;", 38);
        fault(town + "buy 0 0 0;", 41);
    }

    private static void buyPromiseThere() {
        String town = "town;buyer 9;promise 0 1;promise 0 2;";
        Check.due("8: PROMISE 1", reads(town + "buy 0 1;", 5).of(1, 3), 1);
        fault(town + "buy 0 2;", 43);
        fault(town + "buy 0 02;", 43);
        fault(town + "buy 0 99;", 43);
        fault("town;buyer 9;buy 0 0;", 19);
        fault("town;buyer 9;buy 0 0;promise 0 1;", 19);
    }

    private static void buyInTheWindow() {
        String town = "town;buyer 99;buyer 99;promise 0 1;hearer 0 1;buy 0 0;";
        fault(town + "buy 0 0;", 60);
        fault(town + "buy 1 0;", 60);
        fault(town + "keep 0 0;buy 0 0;", 69);
        fault(town + "keep 0 0;buy 1 0;", 69);
    }

    private static void buyPurseHolds() {
        Check.due("8: it holds just the PRICE", reads("town;buyer 19;promise 0 9;buy 0 0;", 4).purse(0, 0), 0);
        fault("town;buyer 18;promise 0 9;buy 0 0;", 32);
        Check.due("8: the least PRICE", reads("town;buyer 1;promise 4 9;buy 0 0;", 4).purse(0, 0), 0);
        fault("town;buyer 0;promise 4 9;buy 0 0;", 31);
        // 19 for the first, 20 left: as much as the second and one more, but not the third
        String two = "town;buyer 39;promise 0 9;promise 0 9;promise 0 1;buy 0 0;buy 0 1;";
        Check.due("8: 1 is left behind two", reads(two, 7).purse(0, 0), 1);
        fault(two + "buy 0 2;", 72);
    }

    private static void keepHeld() {
        String town = "town;buyer 99;promise 0 3;promise 0 3;hearer 0 3;buy 0 1;";
        PledgeWindow x = reads(town + "keep 1 0;", 7);
        Check.due("8: it is KEPT", x.of(1, 3), 10);
        Check.due("8: its JOY", x.count(6), 6);
        fault(town + "keep 0 0;", 62);
        fault(town + "keep 2 0;", 62);
        fault(town + "keep 99 0;", 62);
        fault(town + "keep 1 0;keep 1 0;", 71);
        fault(town + "keep 0 9;", 62);
        fault(town + "keep;", 61);
    }

    private static void keepHearerThere() {
        String town = "town;buyer 99;promise 0 3;hearer 0 3;hearer 0 3;buy 0 0;";
        Check.due("8: HEARER 1", reads(town + "keep 0 1;", 7).of(0, 3), 11);
        fault(town + "keep 0 2;", 63);
        fault(town + "keep 0 99;", 63);
        fault(town + "keep 0;", 62);
        fault("town;buyer 99;promise 0 3;buy 0 0;keep 0 0;", 41);
        fault("town;buyer 99;promise 0 3;buy 0 0;keep 0 0;hearer 0 3;", 41);
    }

    private static void wordsOfLetters() {
        fault("a;", 0);
        fault("z;", 0);
        fault("tow;", 0);
        fault("towns;", 0);
        fault("xtown;", 0);
        fault("to wn;", 0);
        fault("Town;", 0);
        fault("towN;", 0);
        fault("town;buyers 1;", 5);
        fault("town;bu 1;", 5);
        fault("town;day 1;", 5);
        fault("town;plain;", 5);
        fault("town;promise gold 1;", 13);
        fault("town;days one;", 10);
    }

    private static void figuresOneOrTwo() {
        Check.due("8: one figure", reads("town;days 9;", 2).count(3), 9);
        Check.due("8: two figures", reads("town;days 10;", 2).count(3), 10);
        Check.due("8: two, the first is 0", reads("town;days 09;", 2).count(3), 9);
        PledgeWindow x = reads("town;promise 05 09;hearer 00 01;buyer 00;", 4);
        Check.due("8: KIND 05", x.of(0, 0), 5);
        Check.due("8: WORTH 09", x.of(0, 1), 9);
        Check.due("8: WANT 01", x.about(0, 1), 1);
        Check.due("8: BUYER 00", reads("town;buyer 9;promise 0 1;buy 00 00;", 4).of(0, 3), 1);
        fault("town;days 009;", 10);
        fault("town;days 001;", 10);
        fault("town;days 123;", 10);
        fault("town;days 12345678901234567890;", 10);
        fault("town;promise 000 1;", 13);
        fault("town;promise 0 001;", 15);
        fault("town;buy 000 0;", 9);
        fault("town 123;", 5);
        fault("town;123;", 5);
        fault("town;days 1 234;", 12);
    }

    private static void blanksAnyNumber() {
        reads("town;days 1;", 2);
        reads(" town;days 1;", 2);
        reads("town ;days 1;", 2);
        reads("town; days 1;", 2);
        reads("town;days  1;", 2);
        reads("town;days 1 ;", 2);
        reads("town;days 1; ", 2);
        reads("town;days1;", 2);
        reads(repeat(" ", 40) + "town" + repeat(" ", 40) + ";" + repeat(" ", 64), 1);
        fault("t own;", 0);
        fault("town;days 1 0;", 12);
        fault("  towm  ;", 2);
        fault("town;  dais 1;", 7);
        fault("town;days   0;", 12);
        fault("town;days 1   1;", 14);
        fault("town;days 1;   town;", 15);
    }

    private static void blanksNeededBetween() {
        // words and numbers need none between them, two numbers do
        reads("town;promise4 8;hearer3 7;buyer21;buy0 0;keep0 0;days99;", 7);
        fault("town;promise48;", 12);
        fault("town;promise12;", 12);
        fault("town;promise05;", 14);
        fault("town;promise 0123;", 13);
        fault("towndays 1;", 0);
        fault("town days 1;", 5);
    }

    private static boolean isLetter(int c) {
        return c >= 'a' && c <= 'z';
    }

    private static boolean isFigure(int c) {
        return c >= '0' && c <= '9';
    }

    private static void byteReads(String text, int due) {
        Check.due("8: read() of \"" + text + "\"", with(text).read(), due);
    }

    /** 32 is a blank and 59 ends the ITEM; letters belong to the word, all else can not stand. */
    private static void everyByteBehindAWord() {
        for (int c = 0; c <= 127; c++) {
            int due = c == ' ' ? 1 : c == ';' ? -15 : isLetter(c) ? -10 : -14;
            byteReads("town" + (char) c + ";", due);
        }
    }

    private static void everyByteBehindANumber() {
        for (int c = 0; c <= 127; c++) {
            int due = c == ' ' || isFigure(c) ? 2 : c == ';' ? -22 : -21;
            byteReads("town;days 1" + (char) c + ";", due);
        }
    }

    private static void everyByteBehindAnItem() {
        for (int c = 0; c <= 127; c++) {
            byteReads("town;" + (char) c, c == ' ' ? 1 : -15);
            byteReads("" + (char) c, c == ' ' ? -11 : -10);
            byteReads((char) c + "town;", c == ' ' ? 1 : -10);
        }
    }

    /** One letter of a word less, more or another: it is none then. */
    private static void everyWordAndItsNeighbours() {
        String[] words = {"town", "promise", "hearer", "buyer", "buy", "keep", "days"};
        for (String word : words) {
            String ahead = word.equals("town") ? "" : "town;";
            int place = ahead.length();
            byteReads(ahead + word, -10 - place - word.length());
            byteReads(ahead + word.substring(1), -10 - place);
            byteReads(ahead + word + "a", -10 - place);
            byteReads(ahead + word + "z", -10 - place);
            byteReads(ahead + word.substring(0, word.length() - 1), -10 - place);
            for (int i = 0; i < word.length(); i++) {
                StringBuilder other = new StringBuilder(word);
                other.setCharAt(i, word.charAt(i) == 'z' ? 'a' : (char) (word.charAt(i) + 1));
                byteReads(ahead + other, -10 - place);
                // a capital ends the word ahead of it, which only "buy" outlives
                other.setCharAt(i, (char) (word.charAt(i) - 32));
                boolean stands = word.substring(0, i).equals("buy");
                byteReads(ahead + other, -10 - place - (stands ? i : 0));
            }
        }
    }

    private static void semicolonEndsEach() {
        fault("town;;", 5);
        fault("town;days 1;;", 12);
        fault("town,", 4);
        fault("town:", 4);
        fault("town<", 4);
        fault("town;buyer 1,", 12);
        fault("town;promise 0 1 hearer 0 1;", 17);
        fault("town;days 1days 1;", 11);
    }

    private static void endsTooEarly() {
        fault("", 0);
        fault(" ", 1);
        fault("   ", 3);
        fault("town", 4);
        fault("town ", 5);
        fault("town;promise", 12);
        fault("town;promise 0", 14);
        fault("town;promise 0 1", 16);
        fault("town;promise 0 1  ", 18);
        fault("town;hearer", 11);
        fault("town;hearer 0", 13);
        fault("town;hearer 0 1", 15);
        fault("town;buyer", 10);
        fault("town;buyer 1", 12);
        fault("town;days", 9);
        fault("town;days 1", 11);
        String town = "town;buyer 9;promise 0 1;hearer 0 1;";
        fault(town + "buy", 39);
        fault(town + "buy 0", 41);
        fault(town + "buy 0 0", 43);
        fault(town + "buy 0 0;keep", 48);
        fault(town + "buy 0 0;keep 0", 50);
        fault(town + "buy 0 0;keep 0 0", 52);
        reads(town + "buy 0 0;keep 0 0;", 6);
    }

    private static void firstFaultIsTold() {
        fault("town;promise 6 0;", 13);
        fault("town;days 0;days 0;", 10);
        fault("town;buy 0 0;keep 0 0;", 9);
        fault("town;day 0", 5);
        fault("town;days 100", 10);
        fault("town;promise 0 0", 15);
        fault("tow", 0);
        fault("town;promise 0 1;buyer 2;buy 0 0", 31);
    }

    /** The FAULT comes behind a whole other town that was told well. */
    private static void faultLeavesAll() {
        String town = "town;promise 3 3;hearer 3 3;buyer 33;days 9;buy 0 0;keep 0 0;";
        fault(town + "x", 61);
        fault(town + "days", 65);
        Edge.asks("8: a FAULT in a full town", () -> {
            PledgeWindow x = Towns.brim();
            Towns.type(x, town + "x");
            return x;
        }, -71, x -> x.read());
        Edge.asks("8: a FAULT in a bare one", () -> {
            PledgeWindow x = Towns.bare();
            Towns.type(x, town + "x");
            return x;
        }, -71, x -> x.read());
        // a town that was read ahead of it leaves nothing behind in the next one
        PledgeWindow x = with(town + "x");
        x.read();
        Towns.type(x, "town;promise 1 1;");
        Check.due("8: behind a FAULT", x.read(), 2);
        Check.due("8: PROMISES", x.count(0), 1);
        Check.due("8: HEARERS", x.count(1), 0);
        Check.due("8: BUYERS", x.count(2), 0);
        Check.due("8: the DAY", x.count(3), 0);
        Check.due("8: JOY", x.count(6), 0);
        Check.due("8: it lies IN THE WINDOW", x.of(0, 3), 0);
        Check.due("8: it has not lain", x.of(0, 2), 0);
    }

    private static void readTakesThePlaceOfAll() {
        String text = "town;buyer 20;promise 1 3;days 10;buy 0 0;hearer 0 3;";
        for (int full = 0; full < 2; full++) {
            PledgeWindow x = full == 0 ? Towns.some() : Towns.brim();
            Towns.type(x, text);
            long above = x.part(0);
            long below = x.part(1);
            Check.due("8: ITEMS", x.read(), 6);
            // GOLD of 3 is 4 GOOD by then and costs 9
            Check.due("8: nothing is left of what was there", x.digest(),
                    Check.digest(1, 1, 1, 10, 0, 0, 0, 0, 0, 0, 0, text.length(),
                            1, 3, 10, 1, 0, 3, 11, above, below));
            Check.due("8: nothing to undo", x.undo(), -3);
            Check.due("8: all KINDS, as no NOTE is there", x.is(0), 63);
            Check.due("8: all KINDS, as no MARK is there", x.kinds(0), 63);
            Check.due("8: all PROMISES, as none is SEEN", x.which(), 1);
        }
    }

    private static void readLeavesImagesTextFractionStatus() {
        PledgeWindow x = Towns.brim();
        Towns.type(x, "town;");
        x.buys(-1, 0);
        x.buys(1, 3);
        x.promise(0, 1);
        long above = x.part(0);
        Check.due("8: read()", x.read(), 1);
        Check.due("8: STATUS of BAD", x.status(0), 1);
        Check.due("8: STATUS of NO", x.status(1), 1);
        Check.due("8: STATUS of FULL", x.status(2), 1);
        Check.due("8: THE TEXT", x.count(11), 5);
        Check.due("8: THE FRACTION", x.part(0), above);
        Check.due("8: IMAGE 0", x.from(0), 1);
        Check.due("8: is as it was kept", x.count(0), 7);
        Check.due("8: IMAGE 1", x.from(1), 1);
        Check.due("8: is as it was kept", x.count(10), 8);
        Check.due("8: read() again", x.read(), 1);
        Check.due("8: of the same TEXT", x.count(0), 0);
        PledgeWindow y = with("town;");
        y.read();
        Check.due("8: an IMAGE that was not kept", y.from(0), -3);
        List<Long> once = Observed.of(reads("town;days 5;", 2));
        PledgeWindow z = with("town;days 5;");
        z.read();
        z.read();
        Check.holds("8: read twice is read once", Observed.of(z).equals(once));
    }
}
