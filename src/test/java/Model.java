import java.math.BigInteger;
import java.util.ArrayDeque;
import java.util.ArrayList;
import java.util.Collections;
import java.util.Deque;
import java.util.HashMap;
import java.util.List;
import java.util.Map;
import java.util.function.IntUnaryOperator;
import java.util.regex.Matcher;
import java.util.regex.Pattern;

/**
 * The document told once more, in the plainest way and with none of the program's shortcuts:
 * days pass one by one, searches try every way, odds are summed over every case.
 */
final class Model {
    private static final class Pledge {
        private int kind;
        private int worth;
        private int lain;
        private int buyer = -1;
        private int hearer = -1;

        private Pledge copy() {
            Pledge other = new Pledge();
            other.kind = kind;
            other.worth = worth;
            other.lain = lain;
            other.buyer = buyer;
            other.hearer = hearer;
            return other;
        }

        private boolean inWindow() {
            return buyer < 0 && hearer < 0;
        }

        private int good(int more) {
            return goodOf(kind, worth, inWindow() ? lain + more : lain);
        }

        private int price() {
            return good(0) + good(0) + 1;
        }
    }

    private static final class Town {
        private final List<Pledge> pledges = new ArrayList<>();
        private final List<int[]> hearers = new ArrayList<>();
        private final List<Integer> purses = new ArrayList<>();
        private int day;
        private int joy;

        private Town copy() {
            Town other = new Town();
            for (Pledge p : pledges) {
                other.pledges.add(p.copy());
            }
            other.hearers.addAll(hearers);
            other.purses.addAll(purses);
            other.day = day;
            other.joy = joy;
            return other;
        }

        private int joyTo(int p, int h) {
            return joyOf(hearers.get(h)[0], hearers.get(h)[1], pledges.get(p).good(0));
        }

        private void oneDay() {
            day++;
            for (Pledge p : pledges) {
                if (p.inWindow()) {
                    p.lain++;
                }
            }
        }

        private boolean sells(int b, int p) {
            Pledge it = pledges.get(p);
            if (!it.inWindow() || purses.get(b) < it.price()) {
                return false;
            }
            purses.set(b, purses.get(b) - it.price());
            it.buyer = b;
            return true;
        }

        private void keep(int p, int h) {
            joy += joyTo(p, h);
            pledges.get(p).buyer = -1;
            pledges.get(p).hearer = h;
        }

        private boolean waits(int h) {
            for (Pledge p : pledges) {
                if (p.hearer == h) {
                    return false;
                }
            }
            return true;
        }

        private List<Integer> window() {
            List<Integer> there = new ArrayList<>();
            for (int p = 0; p < pledges.size(); p++) {
                if (pledges.get(p).inWindow()) {
                    there.add(p);
                }
            }
            return there;
        }
    }

    private static final class Shop {
        private Town town = new Town();
        private final Deque<Town> past = new ArrayDeque<>();
        private final List<int[]> seen = new ArrayList<>();
        private final List<int[]> notes = new ArrayList<>();
        private final List<int[]> marks = new ArrayList<>();

        private Shop copy() {
            Shop other = new Shop();
            other.town = town.copy();
            for (Town t : past) {
                other.past.addLast(t.copy());
            }
            other.seen.addAll(seen);
            other.notes.addAll(notes);
            other.marks.addAll(marks);
            return other;
        }

        private void remember() {
            past.addLast(town.copy());
            if (past.size() > 8) {
                past.removeFirst();
            }
        }
    }

    private Shop shop = new Shop();
    private final Shop[] images = new Shop[2];
    private String text = "";
    private BigInteger above = BigInteger.ZERO;
    private BigInteger below = BigInteger.ONE;
    private final int[] refused = new int[3];

    static int goodOf(int kind, int worth, int days) {
        int gold = worth;
        int tin = worth;
        for (int day = 1; day <= days; day++) {
            gold += day % 10 == 0 && gold - worth < 5 ? 1 : 0;
            tin -= day % 5 == 0 && tin > 0 ? 1 : 0;
        }
        int[] good = {worth, gold, tin, tin < 2 ? 2 : tin, days <= 6 ? 0 : worth + 3,
            gold + gold > 25 ? 25 : gold + gold};
        return good[kind];
    }

    static int joyOf(int kind, int want, int good) {
        int plain = 6;
        for (int away = good; away != want && plain > 0; away += away < want ? 1 : -1) {
            plain--;
        }
        int bride = good < want ? plain : plain + 2;
        int mother = plain < 3 ? 3 : plain;
        int[] joy = {plain, bride, mother, bride - bride / 2, good <= 3 ? 0 : plain, mother + mother};
        return joy[kind];
    }

    private long refuse(int sort, long answer) {
        refused[sort]++;
        return answer;
    }

    private long bad() {
        return refuse(0, -2);
    }

    private boolean promise(int p) {
        return p >= 0 && p < shop.town.pledges.size();
    }

    private boolean hearer(int h) {
        return h >= 0 && h < shop.town.hearers.size();
    }

    private boolean buyer(int b) {
        return b >= 0 && b < shop.town.purses.size();
    }

    private static boolean in(int least, int value, int most) {
        return least <= value && value <= most;
    }

    long call(String name, int... a) {
        switch (name) {
            case "town": case "promise": case "hearer": case "buyer": case "type": case "clear":
            case "read":
                return callTown(name, a);
            case "days": case "buys": case "keeps": case "undo": case "of": case "about":
            case "purse":
                return callDays(name, a);
            case "good": case "joy": case "when": case "waits": case "fit": case "buy": case "cheap":
                return callJoy(name, a);
            case "part": case "image": case "from": case "status": case "count": case "digest":
                return callWhole(name, a);
            default:
                return callWhich(name, a);
        }
    }

    // ---- a town

    private long callTown(String name, int[] a) {
        Town town = shop.town;
        switch (name) {
            case "town":
                shop = new Shop();
                return town.pledges.size();
            case "promise":
                if (!in(0, a[0], 5) || !in(1, a[1], 9)) {
                    return bad();
                }
                if (town.pledges.size() == 7) {
                    return refuse(2, -4);
                }
                addPromise(town, a[0], a[1]);
                shop.past.clear();
                return town.pledges.size() - 1;
            case "hearer":
                if (!in(0, a[0], 5) || !in(1, a[1], 9)) {
                    return bad();
                }
                if (town.hearers.size() == 4) {
                    return refuse(2, -4);
                }
                town.hearers.add(new int[] {a[0], a[1]});
                shop.past.clear();
                return town.hearers.size() - 1;
            case "buyer":
                if (!in(0, a[0], 999)) {
                    return bad();
                }
                if (town.purses.size() == 3) {
                    return refuse(2, -4);
                }
                town.purses.add(a[0]);
                shop.past.clear();
                return town.purses.size() - 1;
            case "type":
                if (!in(0, a[0], 127)) {
                    return bad();
                }
                if (text.length() == 150) {
                    return refuse(2, -4);
                }
                text += (char) a[0];
                return text.length();
            case "clear":
                int before = text.length();
                text = "";
                return before;
            default:
                return read();
        }
    }

    private static void addPromise(Town town, int kind, int worth) {
        Pledge p = new Pledge();
        p.kind = kind;
        p.worth = worth;
        town.pledges.add(p);
    }

    private static final Pattern TOKEN = Pattern.compile("[a-z]+|[0-9]+|[^ ]", Pattern.DOTALL);

    private long read() {
        List<String> tokens = new ArrayList<>();
        List<Integer> places = new ArrayList<>();
        Matcher m = TOKEN.matcher(text);
        while (m.find()) {
            tokens.add(m.group());
            places.add(m.start());
        }
        places.add(text.length());
        Town draft = new Town();
        int items = 0;
        int i = 0;
        while (i < tokens.size() || items == 0) {
            int taken = readItem(draft, items, tokens.subList(i, tokens.size()));
            if (taken <= 0) {
                return -10 - places.get(i - taken);
            }
            i += taken;
            items++;
        }
        shop = new Shop();
        shop.town = draft;
        return items;
    }

    /** How many TOKENS an ITEM takes; 0 or less: less the number of the one that is at FAULT. */
    private static int readItem(Town draft, int items, List<String> tokens) {
        String word = tokens.isEmpty() ? "" : tokens.get(0);
        Map<String, Integer> numbers = Map.of("town", 0, "promise", 2, "hearer", 2, "buyer", 1,
                "buy", 2, "keep", 2, "days", 1);
        if (!numbers.containsKey(word) || word.equals("town") != (items == 0)
                || word.equals("promise") && draft.pledges.size() == 7
                || word.equals("hearer") && draft.hearers.size() == 4
                || word.equals("buyer") && draft.purses.size() == 3) {
            return 0;
        }
        int many = numbers.get(word);
        int[] n = new int[2];
        for (int i = 0; i < many; i++) {
            String token = i + 1 < tokens.size() ? tokens.get(i + 1) : "";
            if (!token.matches("[0-9]{1,2}")) {
                return -(i + 1);
            }
            n[i] = Integer.parseInt(token);
            if (!numberStands(draft, word, i, n)) {
                return -(i + 1);
            }
        }
        if (many + 1 >= tokens.size() || !tokens.get(many + 1).equals(";")) {
            return -(many + 1);
        }
        readDone(draft, word, n);
        return many + 2;
    }

    private static boolean numberStands(Town draft, String word, int i, int[] n) {
        switch (word) {
            case "promise": case "hearer":
                return i == 0 ? n[0] <= 5 : in(1, n[1], 9);
            case "buyer":
                return true;
            case "days":
                return n[0] >= 1;
            case "buy":
                if (i == 0) {
                    return n[0] < draft.purses.size();
                }
                return n[1] < draft.pledges.size() && draft.copy().sells(n[0], n[1]);
            default:
                if (i == 1) {
                    return n[1] < draft.hearers.size();
                }
                return n[0] < draft.pledges.size() && draft.pledges.get(n[0]).buyer >= 0;
        }
    }

    private static void readDone(Town draft, String word, int[] n) {
        switch (word) {
            case "promise":
                addPromise(draft, n[0], n[1]);
                break;
            case "hearer":
                draft.hearers.add(new int[] {n[0], n[1]});
                break;
            case "buyer":
                draft.purses.add(n[0]);
                break;
            case "buy":
                draft.sells(n[0], n[1]);
                break;
            case "keep":
                draft.keep(n[0], n[1]);
                break;
            case "days":
                for (int d = 0; d < n[0]; d++) {
                    draft.oneDay();
                }
                break;
            default:
                break;
        }
    }

    // ---- days

    private long callDays(String name, int[] a) {
        Town town = shop.town;
        switch (name) {
            case "days":
                if (!in(1, a[0], 99)) {
                    return bad();
                }
                shop.remember();
                for (int d = 0; d < a[0] && town.day < 9999; d++) {
                    town.oneDay();
                }
                return town.day;
            case "buys":
                if (!buyer(a[0]) || !promise(a[1])) {
                    return bad();
                }
                if (!town.copy().sells(a[0], a[1])) {
                    return refuse(1, -3);
                }
                shop.remember();
                town.sells(a[0], a[1]);
                return town.purses.get(a[0]);
            case "keeps":
                if (!promise(a[0]) || !hearer(a[1])) {
                    return bad();
                }
                if (town.pledges.get(a[0]).buyer < 0) {
                    return refuse(1, -3);
                }
                shop.remember();
                int before = town.joy;
                town.keep(a[0], a[1]);
                return town.joy - before;
            case "undo":
                if (shop.past.isEmpty()) {
                    return refuse(1, -3);
                }
                shop.town = shop.past.removeLast();
                return shop.town.day;
            case "of":
                return promise(a[0]) && in(0, a[1], 5) ? of(a[0])[a[1]] : bad();
            case "about":
                return hearer(a[0]) && in(0, a[1], 2) ? about(a[0])[a[1]] : bad();
            default:
                return buyer(a[0]) && in(0, a[1], 1) ? purse(a[0])[a[1]] : bad();
        }
    }

    private int[] of(int number) {
        Pledge p = shop.town.pledges.get(number);
        int place = p.hearer >= 0 ? 10 + p.hearer : 1 + p.buyer;
        return new int[] {p.kind, p.worth, p.lain, place, p.good(0), p.price()};
    }

    private int[] about(int h) {
        int bits = 0;
        for (int p = 0; p < shop.town.pledges.size(); p++) {
            bits += shop.town.pledges.get(p).hearer == h ? 1 << p : 0;
        }
        return new int[] {shop.town.hearers.get(h)[0], shop.town.hearers.get(h)[1], bits};
    }

    private int[] purse(int b) {
        int bits = 0;
        for (int p = 0; p < shop.town.pledges.size(); p++) {
            bits += shop.town.pledges.get(p).buyer == b ? 1 << p : 0;
        }
        return new int[] {shop.town.purses.get(b), bits};
    }

    // ---- joy

    private long callJoy(String name, int[] a) {
        Town town = shop.town;
        switch (name) {
            case "good":
                return promise(a[0]) && in(0, a[1], 60) ? town.pledges.get(a[0]).good(a[1]) : bad();
            case "joy":
                return promise(a[0]) && hearer(a[1]) ? town.joyTo(a[0], a[1]) : bad();
            case "when":
                if (!promise(a[0]) || !in(1, a[1], 30)) {
                    return bad();
                }
                for (int m = 0; m <= 60; m++) {
                    if (town.pledges.get(a[0]).good(m) >= a[1]) {
                        return m;
                    }
                }
                return -1;
            case "waits":
                int bits = 0;
                for (int h = 0; h < town.hearers.size(); h++) {
                    bits += town.waits(h) ? 1 << h : 0;
                }
                return bits;
            case "fit":
                return a[0] == -1 || hearer(a[0]) ? fit(a[0]) : refuse(0, -10);
            case "buy":
                return buyer(a[0]) && hearer(a[1]) && in(0, a[2], 1) ? buy(a) : bad();
            default:
                return cheap();
        }
    }

    /** Tries all ways, the first ones first: each HEARER none, then each PROMISE. */
    private int fit(int asked) {
        Town town = shop.town;
        int hearers = town.hearers.size();
        int choices = town.pledges.size() + 1;
        int best = -1;
        int answer = -1;
        int ways = 1;
        for (int h = 0; h < hearers; h++) {
            ways *= choices;
        }
        for (int way = 0; way < ways; way++) {
            int[] meant = new int[hearers];
            int rest = way;
            for (int h = hearers - 1; h >= 0; h--) {
                meant[h] = rest % choices - 1;
                rest /= choices;
            }
            int joy = joyOfWay(meant);
            if (joy > best) {
                best = joy;
                answer = asked < 0 ? joy : meant[asked];
            }
        }
        return answer;
    }

    private int joyOfWay(int[] meant) {
        int joy = 0;
        for (int h = 0; h < meant.length; h++) {
            if (meant[h] < 0) {
                continue;
            }
            if (!shop.town.pledges.get(meant[h]).inWindow()) {
                return -1;
            }
            for (int other = 0; other < h; other++) {
                if (meant[other] == meant[h]) {
                    return -1;
                }
            }
            joy += shop.town.joyTo(meant[h], h);
        }
        return joy;
    }

    private int buy(int[] a) {
        Town town = shop.town;
        int best = -1;
        int which = 0;
        for (int bits = 127; bits >= 0; bits--) {
            int cost = 0;
            int joy = 0;
            for (int p = 0; p < 7; p++) {
                if ((bits & 1 << p) != 0) {
                    boolean there = promise(p) && town.pledges.get(p).inWindow();
                    cost += there ? town.pledges.get(p).price() : 100000;
                    joy += there ? town.joyTo(p, a[1]) : 0;
                }
            }
            if (cost <= town.purses.get(a[0]) && joy >= best) {
                best = joy;
                which = bits;
            }
        }
        return a[2] == 0 ? best : which;
    }

    private int cheap() {
        List<Integer> waiting = new ArrayList<>();
        for (int h = 0; h < shop.town.hearers.size(); h++) {
            if (shop.town.waits(h)) {
                waiting.add(h);
            }
        }
        return cheapFor(waiting, shop.town.window());
    }

    private int cheapFor(List<Integer> waiting, List<Integer> free) {
        if (waiting.isEmpty()) {
            return 0;
        }
        List<Integer> costs = new ArrayList<>();
        int last = waiting.size() - 1;
        for (Integer p : free) {
            if (shop.town.joyTo(p, waiting.get(last)) > 0) {
                List<Integer> left = new ArrayList<>(free);
                left.remove(p);
                int cost = cheapFor(waiting.subList(0, last), left);
                if (cost >= 0) {
                    costs.add(cost + shop.town.pledges.get(p).price());
                }
            }
        }
        return costs.isEmpty() ? -1 : Collections.min(costs);
    }

    // ---- which it was

    private long callWhich(String name, int[] a) {
        switch (name) {
            case "seen":
                return in(0, a[0], 99) && in(0, a[1], 30) ? add(shop.seen, 5, a) : bad();
            case "note":
                return promise(a[0]) && in(1, a[1], 9) && in(0, a[2], 99) && in(0, a[3], 30)
                        ? add(shop.notes, 6, a) : bad();
            case "mark":
                return hearer(a[0]) && in(1, a[1], 9) && in(0, a[2], 30) && in(0, a[3], 20)
                        ? add(shop.marks, 6, a) : bad();
            case "forget":
                if (!in(0, a[0], 2)) {
                    return bad();
                }
                List<int[]> list = List.of(shop.seen, shop.notes, shop.marks).get(a[0]);
                int before = list.size();
                list.clear();
                return before;
            case "which":
                return bits(which());
            case "tell":
                return parts(which(), 30, (p, d) -> goodOf(kindOf(p), worthOf(p), d));
            case "is":
                return promise(a[0]) ? bits(kindsOfPromise(a[0])) : bad();
            case "look":
                return promise(a[0])
                        ? parts(kindsOfPromise(a[0]), 60, (k, d) -> goodOf(k, worthOf(a[0]), d)) : bad();
            case "kinds":
                return hearer(a[0]) ? bits(kindsOfHearer(a[0])) : bad();
            case "ask":
                return hearer(a[0]) ? parts(kindsOfHearer(a[0]), 30,
                        (k, g) -> joyOf(k, shop.town.hearers.get(a[0])[1], g)) : bad();
            case "bids":
                return buyer(a[0]) && buyer(a[1]) && a[0] != a[1] && promise(a[2]) && hearer(a[3])
                        && a[4] >= -1 ? bids(a) : refuse(0, -10);
            case "redeemed":
                return in(0, a[0], 10) ? redeemed(a[0]) : bad();
            default:
                return in(0, a[0], 999999) && in(0, a[1], 60) ? years(a[0], a[1]) : bad();
        }
    }

    private interface Trial {
        int answer(int candidate, int tried);
    }

    private long add(List<int[]> list, int most, int[] a) {
        if (list.size() == most) {
            return refuse(2, -4);
        }
        list.add(a.clone());
        return list.size();
    }

    private int kindOf(int p) {
        return shop.town.pledges.get(p).kind;
    }

    private int worthOf(int p) {
        return shop.town.pledges.get(p).worth;
    }

    private List<Integer> which() {
        List<Integer> left = new ArrayList<>();
        for (int p = 0; p < shop.town.pledges.size(); p++) {
            boolean so = true;
            for (int[] s : shop.seen) {
                so &= goodOf(kindOf(p), worthOf(p), s[0]) == s[1];
            }
            if (so) {
                left.add(p);
            }
        }
        return left;
    }

    private List<Integer> kindsOfPromise(int p) {
        List<Integer> left = new ArrayList<>(List.of(0, 1, 2, 3, 4, 5));
        for (int[] n : shop.notes) {
            left.removeIf(k -> n[0] == p && goodOf(k, n[1], n[2]) != n[3]);
        }
        return left;
    }

    private List<Integer> kindsOfHearer(int h) {
        List<Integer> left = new ArrayList<>(List.of(0, 1, 2, 3, 4, 5));
        for (int[] m : shop.marks) {
            left.removeIf(k -> m[0] == h && joyOf(k, m[1], m[2]) != m[3]);
        }
        return left;
    }

    private static int bits(List<Integer> numbers) {
        int bits = 0;
        for (int n : numbers) {
            bits += 1 << n;
        }
        return bits;
    }

    private static int parts(List<Integer> candidates, int last, Trial trial) {
        int best = -1;
        int fewest = Integer.MAX_VALUE;
        for (int tried = 0; tried <= last && !candidates.isEmpty(); tried++) {
            Map<Integer, Integer> crowds = new HashMap<>();
            for (int c : candidates) {
                crowds.merge(trial.answer(c, tried), 1, Integer::sum);
            }
            int most = Collections.max(crowds.values());
            if (most < fewest) {
                fewest = most;
                best = tried;
            }
        }
        return best;
    }

    private int bids(int[] a) {
        int joy = shop.town.joyTo(a[2], a[3]);
        int[][][] gets = new int[10][10][2];
        for (int i = 0; i < 10; i++) {
            for (int j = 0; j < 10; j++) {
                int winner = j > i ? 1 : 0;
                int bid = Math.max(i, j);
                gets[i][j][winner] = joy - bid / 3;
                gets[i][j][1 - winner] = bid > 5 ? 1 : 0;
            }
        }
        List<Integer> resting = new ArrayList<>();
        for (int pair = 0; pair < 100; pair++) {
            int i = pair / 10;
            int j = pair % 10;
            if (most(n -> gets[n][j][0]) == gets[i][j][0] && most(n -> gets[i][n][1]) == gets[i][j][1]) {
                resting.add(pair);
            }
        }
        if (a[4] == -1) {
            return resting.size();
        }
        return a[4] < resting.size() ? resting.get(a[4]) : -5;
    }

    private static int most(IntUnaryOperator f) {
        int most = f.applyAsInt(0);
        for (int n = 1; n < 10; n++) {
            most = Math.max(most, f.applyAsInt(n));
        }
        return most;
    }

    /** Sums over every way in which some are redeemed and the others are not. */
    private int redeemed(int c) {
        List<Integer> window = shop.town.window();
        BigInteger sum = BigInteger.ZERO;
        for (int gone = 0; gone < 1 << window.size(); gone++) {
            BigInteger odds = BigInteger.ONE;
            int cost = 0;
            for (int i = 0; i < window.size(); i++) {
                boolean isGone = (gone & 1 << i) != 0;
                odds = odds.multiply(BigInteger.valueOf(isGone ? c : 10 - c));
                cost += isGone ? 0 : shop.town.pledges.get(window.get(i)).price();
            }
            sum = sum.add(odds.multiply(BigInteger.valueOf(cost)));
        }
        BigInteger whole = BigInteger.TEN.pow(window.size());
        BigInteger common = sum.gcd(whole);
        above = sum.divide(common);
        below = whole.divide(common);
        return 1;
    }

    private int years(int seed, int n) {
        Town town = shop.town.copy();
        BigInteger x = BigInteger.valueOf(seed);
        for (int i = 0; i < n; i++) {
            x = x.multiply(BigInteger.valueOf(1103515245)).add(BigInteger.valueOf(12345));
            x = x.mod(BigInteger.valueOf(2147483648L));
            int p = x.shiftRight(16).mod(BigInteger.valueOf(7)).intValue();
            int h = x.shiftRight(20).mod(BigInteger.valueOf(4)).intValue();
            if (town.window().contains(p) && h < town.hearers.size()) {
                town.keep(p, h);
            }
            town.oneDay();
        }
        return town.joy;
    }

    // ---- what there is

    private long callWhole(String name, int[] a) {
        switch (name) {
            case "part":
                return in(0, a[0], 1) ? (a[0] == 0 ? above : below).longValueExact() : bad();
            case "image":
                if (!in(0, a[0], 1)) {
                    return bad();
                }
                images[a[0]] = shop.copy();
                return 1;
            case "from":
                if (!in(0, a[0], 1)) {
                    return bad();
                }
                if (images[a[0]] == null) {
                    return refuse(1, -3);
                }
                shop = images[a[0]].copy();
                return 1;
            case "status":
                return in(0, a[0], 2) ? refused[a[0]] : refuse(0, -1);
            case "count":
                return in(0, a[0], 11) ? counts().get(a[0]) : bad();
            default:
                return digest();
        }
    }

    private List<Integer> counts() {
        Town town = shop.town;
        int kept = 0;
        for (Pledge p : town.pledges) {
            kept += p.hearer >= 0 ? 1 : 0;
        }
        List<Integer> all = new ArrayList<>();
        Collections.addAll(all, town.pledges.size(), town.hearers.size(), town.purses.size(), town.day);
        Collections.addAll(all, town.window().size(), kept, town.joy);
        Collections.addAll(all, shop.seen.size(), shop.notes.size(), shop.marks.size());
        Collections.addAll(all, shop.past.size(), text.length());
        return all;
    }

    private long digest() {
        List<Long> values = new ArrayList<>();
        for (int c : counts()) {
            values.add((long) c);
        }
        for (int p = 0; p < shop.town.pledges.size(); p++) {
            for (int what = 0; what < 4; what++) {
                values.add((long) of(p)[what]);
            }
        }
        for (int[] h : shop.town.hearers) {
            values.add((long) h[0]);
            values.add((long) h[1]);
        }
        for (int purse : shop.town.purses) {
            values.add((long) purse);
        }
        for (List<int[]> list : List.of(shop.seen, shop.notes, shop.marks)) {
            for (int[] row : list) {
                for (int v : row) {
                    values.add((long) v);
                }
            }
        }
        values.add(above.longValueExact());
        values.add(below.longValueExact());
        long h = 1637;
        for (long v : values) {
            h = 31 * h + v;
        }
        return h;
    }
}
