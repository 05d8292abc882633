/** Every call of the face by its name, for tests that go through all of them. */
final class Calls {
    private Calls() {
    }

    static final int NO_END = Integer.MAX_VALUE;

    /** Calls that only ask: whatever they answer, nothing is changed but STATUS. */
    static final String[] ASKING = {
        "of", "about", "purse", "good", "joy", "when", "waits", "fit", "buy", "cheap", "which",
        "tell", "is", "look", "kinds", "ask", "bids", "years", "part", "status", "count", "digest"};

    /** Calls that take numbers, each of which may be wrong. */
    static final String[] WITH_NUMBERS = {
        "promise", "hearer", "buyer", "type", "days", "buys", "keeps", "of", "about", "purse",
        "good", "joy", "when", "fit", "buy", "seen", "note", "mark", "forget", "is", "look",
        "kinds", "ask", "bids", "redeemed", "years", "part", "image", "from", "status", "count"};

    /** The least and the most of each number, pair by pair, for a town of so many. */
    static int[] ranges(String name, int promises, int hearers, int buyers) {
        int p = promises - 1;
        int h = hearers - 1;
        int b = buyers - 1;
        switch (name) {
            case "promise": case "hearer":
                return new int[] {0, 5, 1, 9};
            case "buyer":
                return new int[] {0, 999};
            case "type":
                return new int[] {0, 127};
            case "days":
                return new int[] {1, 99};
            case "buys":
                return new int[] {0, b, 0, p};
            case "keeps": case "joy":
                return new int[] {0, p, 0, h};
            case "of":
                return new int[] {0, p, 0, 5};
            case "about":
                return new int[] {0, h, 0, 2};
            case "purse":
                return new int[] {0, b, 0, 1};
            case "good":
                return new int[] {0, p, 0, 60};
            case "when":
                return new int[] {0, p, 1, 30};
            case "fit":
                return new int[] {-1, h};
            case "buy":
                return new int[] {0, b, 0, h, 0, 1};
            case "seen":
                return new int[] {0, 99, 0, 30};
            case "note":
                return new int[] {0, p, 1, 9, 0, 99, 0, 30};
            case "mark":
                return new int[] {0, h, 1, 9, 0, 30, 0, 20};
            case "is": case "look":
                return new int[] {0, p};
            case "kinds": case "ask":
                return new int[] {0, h};
            case "bids":
                return new int[] {0, b, 0, b, 0, p, 0, h, -1, NO_END};
            case "redeemed":
                return new int[] {0, 10};
            case "years":
                return new int[] {0, 999999, 0, 60};
            case "part": case "image": case "from":
                return new int[] {0, 1};
            case "forget": case "status":
                return new int[] {0, 2};
            case "count":
                return new int[] {0, 11};
            default:
                return new int[0];
        }
    }

    /** What is answered where a number is not as told. */
    static int badAnswer(String name) {
        switch (name) {
            case "fit": case "bids":
                return -10;
            case "status":
                return -1;
            default:
                return -2;
        }
    }

    static String told(String name, int... a) {
        StringBuilder call = new StringBuilder(name).append('(');
        for (int i = 0; i < a.length; i++) {
            call.append(i == 0 ? "" : ", ").append(a[i]);
        }
        return call.append(')').toString();
    }

    static long ask(PledgeWindow x, String name, int... a) {
        switch (name) {
            case "town": return x.town();
            case "promise": return x.promise(a[0], a[1]);
            case "hearer": return x.hearer(a[0], a[1]);
            case "buyer": return x.buyer(a[0]);
            case "type": return x.type(a[0]);
            case "clear": return x.clear();
            case "read": return x.read();
            case "days": return x.days(a[0]);
            case "buys": return x.buys(a[0], a[1]);
            case "keeps": return x.keeps(a[0], a[1]);
            case "undo": return x.undo();
            case "of": return x.of(a[0], a[1]);
            case "about": return x.about(a[0], a[1]);
            case "purse": return x.purse(a[0], a[1]);
            case "good": return x.good(a[0], a[1]);
            case "joy": return x.joy(a[0], a[1]);
            case "when": return x.when(a[0], a[1]);
            case "waits": return x.waits();
            case "fit": return x.fit(a[0]);
            case "buy": return x.buy(a[0], a[1], a[2]);
            case "cheap": return x.cheap();
            case "seen": return x.seen(a[0], a[1]);
            case "which": return x.which();
            case "tell": return x.tell();
            case "note": return x.note(a[0], a[1], a[2], a[3]);
            case "mark": return x.mark(a[0], a[1], a[2], a[3]);
            case "forget": return x.forget(a[0]);
            case "is": return x.is(a[0]);
            case "look": return x.look(a[0]);
            case "kinds": return x.kinds(a[0]);
            case "ask": return x.ask(a[0]);
            case "bids": return x.bids(a[0], a[1], a[2], a[3], a[4]);
            case "redeemed": return x.redeemed(a[0]);
            case "years": return x.years(a[0], a[1]);
            case "part": return x.part(a[0]);
            case "image": return x.image(a[0]);
            case "from": return x.from(a[0]);
            case "status": return x.status(a[0]);
            case "count": return x.count(a[0]);
            case "digest": return x.digest();
            default: return Long.MIN_VALUE;
        }
    }
}
