import java.lang.reflect.Constructor;
import java.lang.reflect.Field;
import java.lang.reflect.Method;
import java.lang.reflect.Modifier;
import java.util.ArrayList;
import java.util.Collections;
import java.util.List;

/** The public face is the document's, call by call, and nothing else can be reached. */
public final class FaceTest {
    private FaceTest() {
    }

    /** As the document tells it: what a call answers, its name, how many ints it takes. */
    private static final String[] FACE = {
        "int town 0", "int promise 2", "int hearer 2", "int buyer 1", "int type 1", "int clear 0",
        "int read 0", "int days 1", "int buys 2", "int keeps 2", "int undo 0", "int of 2",
        "int about 2", "int purse 2", "int good 2", "int joy 2", "int when 2", "int waits 0",
        "int fit 1", "int buy 3", "int cheap 0", "int seen 2", "int which 0", "int tell 0",
        "int note 4", "int mark 4", "int forget 1", "int is 1", "int look 1", "int kinds 1",
        "int ask 1", "int bids 5", "int redeemed 1", "int years 2", "long part 1", "int image 1",
        "int from 1", "int status 1", "int count 1", "long digest 0"};

    public static void main(String[] args) {
        theClass();
        constants();
        constructor();
        calls();
        nothingElseCanBeReached();
        classesInside();
        asReadmeTells();
        Check.end();
    }

    private static List<Class<?>> allClasses() {
        List<Class<?>> all = new ArrayList<>();
        all.add(PledgeWindow.class);
        Collections.addAll(all, PledgeWindow.class.getDeclaredClasses());
        return all;
    }

    private static List<String> publicNames() {
        List<String> names = new ArrayList<>();
        for (String call : FACE) {
            names.add(call.split(" ")[1]);
        }
        return names;
    }

    private static void theClass() {
        int how = PledgeWindow.class.getModifiers();
        Check.holds("face: the class is public", Modifier.isPublic(how));
        Check.holds("face: the class is final", Modifier.isFinal(how));
        Check.holds("face: it has no package", PledgeWindow.class.getPackageName().isEmpty());
        Check.holds("face: it extends nothing", PledgeWindow.class.getSuperclass() == Object.class);
        Check.due("face: what it implements", PledgeWindow.class.getInterfaces().length, 0);
    }

    private static void constants() {
        Check.due("face: NONE", PledgeWindow.NONE, -1);
        Check.due("face: BAD", PledgeWindow.BAD, -2);
        Check.due("face: NO", PledgeWindow.NO, -3);
        Check.due("face: FULL", PledgeWindow.FULL, -4);
        List<String> told = new ArrayList<>();
        for (Field f : PledgeWindow.class.getFields()) {
            boolean constant = Modifier.isStatic(f.getModifiers()) && Modifier.isFinal(f.getModifiers());
            told.add((constant ? "constant " : "") + f.getType() + " " + f.getName());
        }
        Collections.sort(told);
        List<String> due = List.of("constant int BAD", "constant int FULL", "constant int NO",
                "constant int NONE");
        Check.holds("face: public fields are " + told, told.equals(due));
    }

    private static void constructor() {
        Constructor<?>[] all = PledgeWindow.class.getDeclaredConstructors();
        Check.due("face: constructors", all.length, 1);
        Check.holds("face: it is public", Modifier.isPublic(all[0].getModifiers()));
        Check.due("face: it takes nothing", all[0].getParameterCount(), 0);
    }

    private static String told(Method m) {
        for (Class<?> parameter : m.getParameterTypes()) {
            if (parameter != int.class) {
                return m.toString();
            }
        }
        return m.getReturnType() + " " + m.getName() + " " + m.getParameterCount();
    }

    private static void calls() {
        List<String> told = new ArrayList<>();
        for (Method m : PledgeWindow.class.getDeclaredMethods()) {
            if (Modifier.isPublic(m.getModifiers())) {
                told.add(told(m));
                Check.holds("face: " + m.getName() + " belongs to an object",
                        !Modifier.isStatic(m.getModifiers()));
                Check.due("face: what " + m.getName() + " says it throws",
                        m.getExceptionTypes().length, 0);
            }
        }
        for (String call : FACE) {
            Check.holds("face: " + call + " is there", told.remove(call));
        }
        Check.holds("face: and no other call: " + told, told.isEmpty());
    }

    /** What javac adds is no part of the program. */
    private static void nothingElseCanBeReached() {
        for (Field f : PledgeWindow.class.getDeclaredFields()) {
            Check.holds("rule 1: " + f.getName() + " is public or private",
                    (f.getModifiers() & (Modifier.PUBLIC | Modifier.PRIVATE)) != 0);
        }
        for (Method m : PledgeWindow.class.getDeclaredMethods()) {
            Check.holds("rule 1: " + m.getName() + " is public or private",
                    m.isSynthetic() || (m.getModifiers() & (Modifier.PUBLIC | Modifier.PRIVATE)) != 0);
        }
        for (Class<?> c : allClasses()) {
            for (Method m : c.getDeclaredMethods()) {
                boolean hidden = !Modifier.isPublic(m.getModifiers());
                Check.holds("rule 1: " + c.getName() + "." + m.getName() + " bears a public name",
                        !hidden || !publicNames().contains(m.getName()));
                Check.holds("rule 11: " + c.getName() + "." + m.getName() + " takes too much",
                        m.getParameterCount() <= 7);
            }
        }
    }

    private static void classesInside() {
        Check.holds("rule 11: the file has too many classes", allClasses().size() <= 12);
        for (Class<?> c : allClasses()) {
            int fields = 0;
            for (Field f : c.getDeclaredFields()) {
                boolean shared = Modifier.isStatic(f.getModifiers());
                fields += shared ? 0 : 1;
                Check.holds("rule 5: " + c.getName() + "." + f.getName() + " can be changed for all",
                        !shared || Modifier.isFinal(f.getModifiers()));
            }
            Check.holds("rule 11: " + c.getName() + " has too many fields", fields <= 20);
            if (c != PledgeWindow.class) {
                int how = c.getModifiers();
                Check.holds("rule 1: " + c.getName() + " is static", Modifier.isStatic(how));
                Check.holds("rule 1: " + c.getName() + " can be reached",
                        (how & (Modifier.PUBLIC | Modifier.PROTECTED)) == 0);
                Check.due("rule 2: classes inside " + c.getName(), c.getDeclaredClasses().length, 0);
            }
        }
    }

    /** The examples of README.md, call by call. */
    private static void asReadmeTells() {
        PledgeWindow shop = new PledgeWindow();
        int p = shop.promise(1, 7);
        int h = shop.hearer(0, 8);
        int b = shop.buyer(30);
        Check.due("README: days", shop.days(10), 10);
        Check.due("README: buys", shop.buys(b, p), 13);
        Check.due("README: keeps", shop.keeps(p, h), 6);
        Check.due("README: undo", shop.undo(), 10);
        Check.due("README: the BUYER HOLDS it again", shop.of(p, 3), 1 + b);
        String text = "town;promise 1 7;hearer 0 8;buyer 30;days 10;buy 0 0;keep 0 0;";
        for (int i = 0; i < text.length(); i++) {
            shop.type(text.charAt(i));
        }
        Check.due("README: read", shop.read(), 7);
        Check.due("README: count", shop.count(6), 6);
    }
}
