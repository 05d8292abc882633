/**
 * Long runs of calls, chosen by numbers that are the same each time, answered by the program
 * and by the model. Behind each call the digest must be alike, too, and each STATUS.
 */
public final class ModelTest {
    private static final String[] CALLS = {
        "town", "promise", "hearer", "buyer", "read", "clear", "type",
        "days", "buys", "keeps", "undo", "of", "about", "purse",
        "good", "joy", "when", "waits", "fit", "buy", "cheap",
        "seen", "which", "tell", "note", "mark", "forget", "is", "look", "kinds", "ask",
        "bids", "redeemed", "years",
        "part", "image", "from", "status", "count", "digest"};

    /** How often each is chosen: what empties the town seldom, what changes it often. */
    private static final int[] SHARES = {
        1, 6, 4, 4, 3, 1, 2,
        10, 16, 14, 8, 4, 3, 3,
        3, 3, 4, 3, 6, 6, 6,
        4, 3, 4, 6, 6, 2, 4, 4, 4, 4,
        5, 4, 6,
        2, 3, 3, 2, 3, 1};

    private static final int RUNS = 500;
    /** An object is used for so many calls; each step takes 5 at most, one that reads a TEXT 157. */
    private static final int CALLS_OF_ONE = 512, STEP = 5, READING = 157;

    private long dice;
    private int left = CALLS_OF_ONE;
    private long lastDue;
    private final PledgeWindow program = new PledgeWindow();
    private final Model model = new Model();
    private final StringBuilder told = new StringBuilder();

    private ModelTest(int run) {
        dice = 7919L * run + 17;
    }

    public static void main(String[] args) {
        for (int run = 0; run < RUNS; run++) {
            new ModelTest(run).run(run);
        }
        Check.end();
    }

    /** A number of 0 .. below - 1. */
    private int throwing(int below) {
        dice = dice * 6364136223846793005L + 1442695040888963407L;
        return (int) ((dice >>> 33) % below);
    }

    /** Mostly a number of least .. most, now and then one just or far beyond. */
    private int number(int least, int most) {
        switch (throwing(60)) {
            case 0:
                return least - 1;
            case 1:
                return most + 1;
            case 2:
                return throwing(2) == 0 ? Integer.MIN_VALUE : Integer.MAX_VALUE;
            case 3: case 4: case 5:
                return most;
            case 6: case 7: case 8:
                return least;
            default:
                return least + throwing(most - least + 1);
        }
    }

    private void run(int run) {
        begin(run);
        while (left >= STEP) {
            String name = pick();
            boolean alike = !name.equals("read") ? step(name, numbersFor(name))
                    : left < READING || typesText() && step("read");
            if (!alike) {
                System.out.println("in run " + run + " behind:" + told);
                return;
            }
        }
    }

    /** Towns of all sizes: runs begin with as many of each as the run's number tells. */
    private void begin(int run) {
        for (int i = 0; i < run % 8; i++) {
            answersAlike("promise", numbersFor("promise"));
        }
        for (int i = 0; i < run / 8 % 5; i++) {
            answersAlike("hearer", numbersFor("hearer"));
        }
        for (int i = 0; i < run / 40 % 4; i++) {
            answersAlike("buyer", numbersFor("buyer"));
        }
        if (run % 10 == 9) {
            for (int i = 0; i < 101; i++) {
                answersAlike("days", 99);
            }
        }
    }

    private String pick() {
        int all = 0;
        for (int share : SHARES) {
            all += share;
        }
        int rest = throwing(all);
        int i = 0;
        while (rest >= SHARES[i]) {
            rest -= SHARES[i];
            i++;
        }
        return CALLS[i];
    }

    /** One call; behind it the digest is alike, and so is each STATUS where it may have risen. */
    private boolean step(String name, int... a) {
        boolean alike = answersAlike(name, a) & stateAlike("digest");
        for (int i = 0; i < 3 && lastDue < 0; i++) {
            alike &= stateAlike("status", i);
        }
        return alike;
    }

    private boolean stateAlike(String name, int... a) {
        left--;
        boolean alike = Calls.ask(program, name, a) == model.call(name, a);
        Check.holds(Calls.told(name, a) + " is another one than is due", alike);
        return alike;
    }

    private boolean answersAlike(String name, int... a) {
        left--;
        long got = Calls.ask(program, name, a);
        lastDue = model.call(name, a);
        Check.due(Calls.told(name, a), got, lastDue);
        told.append(' ').append(Calls.told(name, a));
        return got == lastDue;
    }

    private int[] numbersFor(String name) {
        switch (name) {
            case "promise": case "hearer":
                return new int[] {number(0, 5), number(1, 9)};
            case "buyer":
                return new int[] {throwing(3) == 0 ? number(0, 999) : number(0, 90)};
            case "type":
                return new int[] {number(0, 127)};
            case "days":
                return new int[] {throwing(3) == 0 ? number(1, 99) : number(1, 9)};
            case "buys":
                return new int[] {number(0, 2), number(0, 6)};
            case "keeps": case "joy":
                return new int[] {number(0, 6), number(0, 3)};
            case "of":
                return new int[] {number(0, 6), number(0, 5)};
            case "about":
                return new int[] {number(0, 3), number(0, 2)};
            case "purse":
                return new int[] {number(0, 2), number(0, 1)};
            case "good":
                return new int[] {number(0, 6), number(0, 60)};
            case "when":
                return new int[] {number(0, 6), throwing(2) == 0 ? number(1, 30) : number(5, 15)};
            case "fit":
                return new int[] {number(-1, 3)};
            case "buy":
                return new int[] {number(0, 2), number(0, 3), number(0, 1)};
            case "forget":
                return new int[] {number(0, 2)};
            case "is": case "look":
                return new int[] {number(0, 6)};
            case "kinds": case "ask":
                return new int[] {number(0, 3)};
            case "bids":
                return new int[] {number(0, 2), number(0, 2), number(0, 6), number(0, 3), number(-1, 20)};
            case "redeemed":
                return new int[] {number(0, 10)};
            case "years":
                return new int[] {number(0, 999999), throwing(2) == 0 ? number(0, 60) : number(0, 12)};
            case "part": case "image": case "from":
                return new int[] {number(0, 1)};
            case "status":
                return new int[] {number(0, 2)};
            case "count":
                return new int[] {number(0, 11)};
            case "seen": case "note": case "mark":
                return hint(name);
            default:
                return new int[0];
        }
    }

    /** Mostly hints that are so for a KIND, lest none agrees with any. */
    private int[] hint(String name) {
        int kind = throwing(6);
        int size = number(1, 9);
        boolean fair = throwing(5) != 0 && size >= 1 && size <= 9;
        if (name.equals("mark")) {
            int good = number(0, 30);
            boolean so = fair && good >= 0 && good <= 30;
            return new int[] {number(0, 3), size, good, so ? Model.joyOf(kind, size, good) : number(0, 20)};
        }
        int days = number(0, 99);
        boolean so = fair && days >= 0 && days <= 99;
        int answer = so ? Model.goodOf(kind, size, days) : number(0, 30);
        return name.equals("seen") ? new int[] {days, answer}
                : new int[] {number(0, 6), size, days, answer};
    }

    private boolean typesText() {
        String text = text();
        boolean alike = answersAlike("clear");
        for (int i = 0; i < text.length(); i++) {
            alike &= answersAlike("type", text.charAt(i));
        }
        return alike;
    }

    /** A text that mostly tells a town, and is spoilt at one place in every second case. */
    private String text() {
        StringBuilder text = new StringBuilder(blanks() + "town" + blanks() + ";");
        int promises = 1 + throwing(5);
        for (int i = 0; i < promises; i++) {
            text.append("promise").append(figure(5)).append(' ').append(figure(9)).append(';');
        }
        for (int i = throwing(3); i >= 0; i--) {
            text.append("hearer ").append(figure(5)).append(' ').append(1 + throwing(9)).append(';');
        }
        text.append("buyer").append(throwing(100)).append(';');
        int items = throwing(9);
        for (int i = 0; i < items; i++) {
            switch (throwing(3)) {
                case 0:
                    text.append("days").append(blanks()).append(1 + throwing(99));
                    break;
                case 1:
                    text.append("buy 0 ").append(throwing(promises));
                    break;
                default:
                    text.append("keep ").append(throwing(promises)).append(" 0");
                    break;
            }
            text.append(blanks()).append(';').append(blanks());
        }
        if (throwing(2) == 0) {
            spoil(text);
        }
        return text.length() > 150 ? text.substring(0, 150) : text.toString();
    }

    private void spoil(StringBuilder text) {
        String signs = "; 0123456789townpromisehearerbuyerkeepdaysAZ`{/:-" + (char) 0 + (char) 9 + (char) 127;
        int place = throwing(text.length());
        char sign = signs.charAt(throwing(signs.length()));
        switch (throwing(4)) {
            case 0:
                text.setCharAt(place, sign);
                break;
            case 1:
                text.insert(place, sign);
                break;
            case 2:
                text.deleteCharAt(place);
                break;
            default:
                text.setLength(place);
                break;
        }
    }

    private String blanks() {
        return throwing(3) == 0 ? " ".repeat(throwing(3)) : "";
    }

    private String figure(int most) {
        int n = most == 9 ? 1 + throwing(9) : throwing(most + 1);
        return (throwing(6) == 0 ? "0" : "") + n;
    }
}
