import java.util.List;

/** The boundaries that promises 1 to 7 name, one by one: the last value within, the first beyond. */
public final class EdgeTownTest {
    private EdgeTownTest() {
    }

    public static void main(String[] args) {
        newObjectHoldsNothing();
        newObjectAnswersOfNothing();
        newObjectsStandApart();
        townTellsHowManyThereWere();
        townLeavesNothing();
        townLeavesImagesTextFractionStatus();
        townLeavesNothingToUndo();
        townHasRoomForAllAgain();
        promiseKinds();
        promiseWorths();
        promiseSeven();
        promiseLiesSinceItsDay();
        promiseEndsUndo();
        hearerKinds();
        hearerWants();
        hearerFour();
        hearerEndsUndo();
        buyerPurses();
        buyerThree();
        buyerEndsUndo();
        typeBytes();
        typeOneHundredAndFifty();
        clearTellsHowMany();
        clearLeavesAllElse();
        Check.end();
    }

    // ---- promise 1

    private static void newObjectHoldsNothing() {
        PledgeWindow x = new PledgeWindow();
        for (int what = 0; what <= 11; what++) {
            Check.due("1: new, count(" + what + ")", x.count(what), 0);
        }
        Check.due("1: THE FRACTION is 0", x.part(0), 0);
        Check.due("1: by 1", x.part(1), 1);
        Check.due("1: digest", x.digest(), Check.digest(0, 0, 0, 0, 0, 0, 0, 0, 0, 0, 0, 0, 0, 1));
        for (int what = 0; what <= 2; what++) {
            Check.due("1: new, status(" + what + ")", x.status(what), 0);
        }
        Check.due("1: the first PROMISE is 0", x.promise(0, 1), 0);
        Check.due("1: the first HEARER is 0", x.hearer(0, 1), 0);
        Check.due("1: the first BUYER is 0", x.buyer(0), 0);
        Check.due("1: it came on DAY 0 and has not lain", x.of(0, 2), 0);
    }

    private static void newObjectAnswersOfNothing() {
        Edge.asks("1: nobody WAITS", Towns::bare, 0, PledgeWindow::waits);
        Edge.asks("1: FIT of nothing", Towns::bare, 0, x -> x.fit(-1));
        Edge.asks("1: CHEAP for nobody", Towns::bare, 0, PledgeWindow::cheap);
        Edge.asks("1: WHICH of nothing", Towns::bare, 0, PledgeWindow::which);
        Edge.asks("1: TELL of nothing", Towns::bare, -1, PledgeWindow::tell);
        Edge.asks("1: YEARS of nothing", Towns::bare, 0, x -> x.years(999999, 60));
        Edge.asks("1: THE TEXT is an empty one", Towns::bare, -10, PledgeWindow::read);
        Edge.no("1: nothing to undo", Towns::bare, PledgeWindow::undo);
        Edge.no("1: no IMAGE 0", Towns::bare, x -> x.from(0));
        Edge.no("1: no IMAGE 1", Towns::bare, x -> x.from(1));
    }

    private static void newObjectsStandApart() {
        PledgeWindow one = new PledgeWindow();
        List<Long> bare = Observed.of(new PledgeWindow());
        Towns.brim();
        Towns.some();
        Check.holds("1: an object knows of another", Observed.of(one).equals(bare));
        PledgeWindow left = Towns.some();
        PledgeWindow right = Towns.some();
        left.town();
        left.image(0);
        Check.due("1: one is emptied", left.count(0), 0);
        Check.holds("1: and the other one, too",
                Observed.of(right).equals(Observed.of(Towns.some())));
    }

    // ---- promise 2

    private static void townTellsHowManyThereWere() {
        PledgeWindow x = new PledgeWindow();
        Check.due("2: none", x.town(), 0);
        for (int many = 1; many <= 7; many++) {
            for (int p = 0; p < many; p++) {
                x.promise(0, 1);
            }
            Check.due("2: of " + many, x.town(), many);
        }
        Check.due("2: none again", x.town(), 0);
        Check.due("2: of some, wherever they are", Towns.some().town(), 5);
        Check.due("2: of a full one", Towns.brim().town(), 7);
        x.hearer(0, 1);
        x.buyer(1);
        Check.due("2: HEARERS and BUYERS are no PROMISES", x.town(), 0);
    }

    private static void townLeavesNothing() {
        for (int full = 0; full < 2; full++) {
            PledgeWindow x = full == 0 ? Towns.some() : Towns.brim();
            long above = x.part(0);
            long below = x.part(1);
            int bytes = x.count(11);
            x.town();
            Check.due("2: all as at first", x.digest(),
                    Check.digest(0, 0, 0, 0, 0, 0, 0, 0, 0, 0, 0, bytes, above, below));
            Check.due("2: a PROMISE is the first", x.promise(3, 3), 0);
            Check.due("2: it lies IN THE WINDOW", x.of(0, 3), 0);
            Check.due("2: it has not lain", x.of(0, 2), 0);
            Check.due("2: all KINDS may be its own", x.is(0), 63);
            Check.due("2: a HEARER is the first", x.hearer(3, 3), 0);
            Check.due("2: nothing is KEPT to him", x.about(0, 2), 0);
            Check.due("2: all KINDS may be his own", x.kinds(0), 63);
            Check.due("2: a BUYER is the first", x.buyer(3), 0);
            Check.due("2: he HOLDS nothing", x.purse(0, 1), 0);
            Check.due("2: the next DAY is 1", x.days(1), 1);
        }
    }

    private static void townLeavesImagesTextFractionStatus() {
        PledgeWindow x = Towns.brim();
        x.promise(0, 1);
        x.promise(0, 0);
        x.promise(0, 0);
        x.buys(1, 3);
        x.buys(1, 3);
        x.buys(1, 3);
        long above = x.part(0);
        x.town();
        Check.due("2: STATUS of BAD stays", x.status(0), 2);
        Check.due("2: STATUS of NO stays", x.status(1), 3);
        Check.due("2: STATUS of FULL stays", x.status(2), 1);
        Check.due("2: THE TEXT stays", x.count(11), 150);
        Check.due("2: it has no room", x.type(32), -4);
        Check.due("2: THE FRACTION stays", x.part(0), above);
        Check.due("2: IMAGE 0 stays", x.from(0), 1);
        Check.due("2: with its PROMISES", x.count(0), 7);
        Check.due("2: of DAY 0", x.count(3), 0);
        x.town();
        Check.due("2: IMAGE 1 stays", x.from(1), 1);
        Check.due("2: of DAY 9999", x.count(3), 9999);
        Check.due("2: with what may be undone", x.count(10), 8);
        x.town();
        Check.due("2: THE TEXT can be read as before", x.read(), 9);
        PledgeWindow y = Towns.some();
        y.town();
        Check.due("2: an IMAGE that was not kept is not there now", y.from(0), -3);
    }

    private static void townLeavesNothingToUndo() {
        Edge.no("2: UNDO behind it", () -> {
            PledgeWindow x = Towns.some();
            x.town();
            return x;
        }, PledgeWindow::undo);
    }

    private static void townHasRoomForAllAgain() {
        PledgeWindow x = Towns.brim();
        x.town();
        for (int n = 0; n < 7; n++) {
            Check.due("2: PROMISE " + n + " behind it", x.promise(0, 1), n);
        }
        for (int n = 0; n < 4; n++) {
            Check.due("2: HEARER " + n + " behind it", x.hearer(0, 1), n);
        }
        for (int n = 0; n < 3; n++) {
            Check.due("2: BUYER " + n + " behind it", x.buyer(0), n);
        }
        for (int n = 1; n <= 5; n++) {
            Check.due("2: SEEN " + n + " behind it", x.seen(0, 0), n);
        }
        for (int n = 1; n <= 6; n++) {
            Check.due("2: NOTE " + n + " behind it", x.note(0, 1, 0, 0), n);
            Check.due("2: MARK " + n + " behind it", x.mark(0, 1, 0, 0), n);
        }
        for (int n = 1; n <= 8; n++) {
            Check.due("2: DAY " + n + " behind it", x.days(1), n);
            Check.due("2: what may be undone", x.count(10), n);
        }
    }

    // ---- promise 3

    private static void promiseKinds() {
        PledgeWindow x = new PledgeWindow();
        Check.due("3: KIND 0", x.promise(0, 4), 0);
        Check.due("3: KIND 5", x.promise(5, 4), 1);
        Check.due("3: told as 0", x.of(0, 0), 0);
        Check.due("3: told as 5", x.of(1, 0), 5);
        Edge.bad("3: KIND -1", Towns::some, y -> y.promise(-1, 4));
        Edge.bad("3: KIND 6", Towns::some, y -> y.promise(6, 4));
    }

    private static void promiseWorths() {
        PledgeWindow x = new PledgeWindow();
        Check.due("3: WORTH 1", x.promise(0, 1), 0);
        Check.due("3: WORTH 9", x.promise(0, 9), 1);
        Check.due("3: told as 1", x.of(0, 1), 1);
        Check.due("3: told as 9", x.of(1, 1), 9);
        Edge.bad("3: WORTH 0", Towns::some, y -> y.promise(0, 0));
        Edge.bad("3: WORTH 10", Towns::some, y -> y.promise(0, 10));
    }

    private static PledgeWindow withPromises(int many) {
        PledgeWindow x = new PledgeWindow();
        for (int p = 0; p < many; p++) {
            x.promise(1, p + 1);
        }
        x.days(5);
        return x;
    }

    private static void promiseSeven() {
        PledgeWindow x = withPromises(6);
        Check.due("3: the 7th is 6", x.promise(5, 9), 6);
        Check.due("3: there are 7", x.count(0), 7);
        Check.due("3: all IN THE WINDOW", x.count(4), 7);
        Check.due("3: WORTH of the 6th", x.of(5, 1), 6);
        Check.due("3: WORTH of the 7th", x.of(6, 1), 9);
        Edge.full("3: an 8th", () -> withPromises(7), y -> y.promise(5, 9));
        Edge.bad("3: an 8th of WORTH 10: BAD is the first of", () -> withPromises(7),
                y -> y.promise(5, 10));
    }

    private static void promiseLiesSinceItsDay() {
        PledgeWindow x = new PledgeWindow();
        Towns.wait(x, 9999);
        Check.due("3: on the last DAY", x.promise(1, 5), 0);
        Check.due("3: it has not lain", x.of(0, 2), 0);
        Check.due("3: as GOOD as new", x.of(0, 4), 5);
        Check.due("3: IN THE WINDOW", x.of(0, 3), 0);
    }

    private static void promiseEndsUndo() {
        PledgeWindow x = Towns.some();
        Check.due("3: ahead of it, what may be undone", x.count(10), 5);
        Check.due("3: a PROMISE comes", x.promise(0, 1), 5);
        Check.due("3: nothing may be undone", x.count(10), 0);
        Check.due("3: undo()", x.undo(), -3);
        x.days(2);
        x.promise(0, 9);
        Check.due("3: nothing behind the 7th, too", x.count(10), 0);
        x.days(2);
        Check.full("3: an 8th", x, () -> x.promise(0, 9));
        Check.due("3: one that does not come ends nothing", x.count(10), 1);
    }

    // ---- promise 4

    private static void hearerKinds() {
        PledgeWindow x = new PledgeWindow();
        Check.due("4: KIND 0", x.hearer(0, 4), 0);
        Check.due("4: KIND 5", x.hearer(5, 4), 1);
        Check.due("4: told as 0", x.about(0, 0), 0);
        Check.due("4: told as 5", x.about(1, 0), 5);
        Edge.bad("4: KIND -1", Towns::some, y -> y.hearer(-1, 4));
        Edge.bad("4: KIND 6", Towns::some, y -> y.hearer(6, 4));
    }

    private static void hearerWants() {
        PledgeWindow x = new PledgeWindow();
        Check.due("4: WANT 1", x.hearer(0, 1), 0);
        Check.due("4: WANT 9", x.hearer(0, 9), 1);
        Check.due("4: told as 1", x.about(0, 1), 1);
        Check.due("4: told as 9", x.about(1, 1), 9);
        Edge.bad("4: WANT 0", Towns::some, y -> y.hearer(0, 0));
        Edge.bad("4: WANT 10", Towns::some, y -> y.hearer(0, 10));
    }

    private static PledgeWindow withHearers(int many) {
        PledgeWindow x = new PledgeWindow();
        for (int h = 0; h < many; h++) {
            x.hearer(1, h + 1);
        }
        x.days(5);
        return x;
    }

    private static void hearerFour() {
        PledgeWindow x = withHearers(3);
        Check.due("4: the 4th is 3", x.hearer(5, 9), 3);
        Check.due("4: there are 4", x.count(1), 4);
        Check.due("4: all of them wait", x.waits(), 15);
        Check.due("4: WANT of the 3rd", x.about(2, 1), 3);
        Check.due("4: WANT of the 4th", x.about(3, 1), 9);
        Edge.full("4: a 5th", () -> withHearers(4), y -> y.hearer(5, 9));
        Edge.bad("4: a 5th who wants 10: BAD is the first of", () -> withHearers(4),
                y -> y.hearer(5, 10));
    }

    private static void hearerEndsUndo() {
        PledgeWindow x = Towns.some();
        Check.due("4: a HEARER comes", x.hearer(0, 1), 2);
        Check.due("4: nothing may be undone", x.count(10), 0);
        Check.due("4: undo()", x.undo(), -3);
        x.hearer(0, 1);
        x.days(2);
        Check.full("4: a 5th", x, () -> x.hearer(0, 9));
        Check.due("4: one who does not come ends nothing", x.count(10), 1);
    }

    // ---- promise 5

    private static void buyerPurses() {
        PledgeWindow x = new PledgeWindow();
        Check.due("5: PURSE 0", x.buyer(0), 0);
        Check.due("5: PURSE 999", x.buyer(999), 1);
        Check.due("5: told as 0", x.purse(0, 0), 0);
        Check.due("5: told as 999", x.purse(1, 0), 999);
        Edge.bad("5: PURSE -1", Towns::some, y -> y.buyer(-1));
        Edge.bad("5: PURSE 1000", Towns::some, y -> y.buyer(1000));
    }

    private static PledgeWindow withBuyers(int many) {
        PledgeWindow x = new PledgeWindow();
        for (int b = 0; b < many; b++) {
            x.buyer(100 * b);
        }
        x.days(5);
        return x;
    }

    private static void buyerThree() {
        PledgeWindow x = withBuyers(2);
        Check.due("5: the 3rd is 2", x.buyer(7), 2);
        Check.due("5: there are 3", x.count(2), 3);
        Check.due("5: PURSE of the 2nd", x.purse(1, 0), 100);
        Check.due("5: PURSE of the 3rd", x.purse(2, 0), 7);
        Edge.full("5: a 4th", () -> withBuyers(3), y -> y.buyer(7));
        Edge.bad("5: a 4th with 1000: BAD is the first of", () -> withBuyers(3),
                y -> y.buyer(1000));
    }

    private static void buyerEndsUndo() {
        PledgeWindow x = Towns.some();
        Check.due("5: a BUYER comes", x.buyer(0), 2);
        Check.due("5: nothing may be undone", x.count(10), 0);
        Check.due("5: undo()", x.undo(), -3);
        x.days(2);
        Check.full("5: a 4th", x, () -> x.buyer(1));
        Check.due("5: one who does not come ends nothing", x.count(10), 1);
    }

    // ---- promise 6

    private static void typeBytes() {
        PledgeWindow x = new PledgeWindow();
        Check.due("6: byte 0", x.type(0), 1);
        Check.due("6: byte 127", x.type(127), 2);
        Check.due("6: both are there", x.count(11), 2);
        Edge.bad("6: byte -1", Towns::some, y -> y.type(-1));
        Edge.bad("6: byte 128", Towns::some, y -> y.type(128));
    }

    private static PledgeWindow withBytes(int many) {
        PledgeWindow x = new PledgeWindow();
        Towns.type(x, Towns.FULL_TEXT.substring(0, many));
        return x;
    }

    private static void typeOneHundredAndFifty() {
        PledgeWindow x = withBytes(149);
        Check.due("6: the 150th byte", x.type(32), 150);
        Check.due("6: there are 150", x.count(11), 150);
        Check.due("6: all of them are read", x.read(), 9);
        Edge.full("6: a 151st byte", () -> withBytes(150), y -> y.type(32));
        Edge.bad("6: a 151st byte of 128: BAD is the first of", () -> withBytes(150),
                y -> y.type(128));
        x.clear();
        Check.due("6: room again behind clear()", x.type(32), 1);
    }

    // ---- promise 7

    private static void clearTellsHowMany() {
        PledgeWindow x = new PledgeWindow();
        Check.due("7: none", x.clear(), 0);
        x.type(32);
        Check.due("7: one", x.clear(), 1);
        Check.due("7: none again", x.clear(), 0);
        Check.due("7: all 150", withBytes(150).clear(), 150);
        PledgeWindow y = withBytes(150);
        y.clear();
        Check.due("7: none is there", y.count(11), 0);
        Check.due("7: the next is the first", y.type('t'), 1);
        // the bytes from before are gone, so the TEXT has an end there
        Check.due("7: behind it a word that is none", y.read(), -10);
        Check.due("7: and the rest", read(y, "own;"), 1);
    }

    private static int read(PledgeWindow x, String more) {
        for (int i = 0; i < more.length(); i++) {
            x.type(more.charAt(i));
        }
        return x.read();
    }

    private static void clearLeavesAllElse() {
        PledgeWindow x = Towns.some();
        PledgeWindow y = Towns.some();
        x.clear();
        Towns.type(x, "town;days 9;buyer 7;");
        Check.holds("7: clear() changes THE TEXT alone", Observed.of(x).equals(Observed.of(y)));
    }
}
