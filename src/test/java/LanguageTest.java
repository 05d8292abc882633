import java.io.IOException;
import java.nio.charset.StandardCharsets;
import java.nio.file.Files;
import java.nio.file.Path;
import java.util.ArrayList;
import java.util.List;
import java.util.regex.Matcher;
import java.util.regex.Pattern;

/**
 * Reads the program's own text: what ../shared/LANGUAGE.md leaves out must not be in it. It tells
 * by words and signs alone, so it is a guard against slips, not a proof.
 */
public final class LanguageTest {
    private static final Path PROGRAM = Path.of("src/main/java/PledgeWindow.java");

    /** Words of Java that rules 1, 2, 4 and 6 leave out. */
    private static final List<String> LEFT_OUT = List.of("package", "import", "throw", "throws", "try",
            "catch", "finally", "synchronized", "assert", "volatile", "transient", "native", "strictfp",
            "protected", "equals", "hashCode", "Object", "Exception", "Error", "Thread", "Random",
            "nanoTime", "currentTimeMillis", "var", "yield", "goto");

    /** All of the library that the program calls; rule 4 allows each. */
    private static final List<String> LIBRARY = List.of("Math.abs", "Math.max", "Math.min",
            "Integer.bitCount", "System.arraycopy");

    private LanguageTest() {
    }

    public static void main(String[] args) throws IOException {
        byte[] bytes = Files.readAllBytes(PROGRAM);
        String whole = new String(bytes, StandardCharsets.ISO_8859_1);
        String text = bare(whole);
        signs(bytes);
        noWordLeftOut(text);
        noLambda(text);
        noStaticBlock(text);
        libraryAsListed(text);
        indicesAreLookedAt(text);
        divisorsAreLookedAt(text);
        nothingIsMadeByCalls(text);
        noTextsJoined(whole);
        methodsAreShort(text);
        Check.end();
    }

    /** The text with its comments, and what its Strings and chars hold, as blanks. */
    private static String bare(String text) {
        Matcher m = Pattern.compile("/\\*.*?\\*/|//[^\n]*|\"(\\\\.|[^\"\\\\\n])*\"|'(\\\\.|[^'\\\\\n])'",
                Pattern.DOTALL).matcher(text);
        StringBuilder told = new StringBuilder(text);
        while (m.find()) {
            for (int i = m.start(); i < m.end(); i++) {
                if (text.charAt(i) != '\n') {
                    told.setCharAt(i, ' ');
                }
            }
        }
        return told.toString();
    }

    private static int lineOf(String text, int place) {
        return (int) text.substring(0, place).chars().filter(c -> c == '\n').count() + 1;
    }

    /** Nothing in the text is so, but what `allowed` finds, too. */
    private static void none(String what, String text, String sought, List<String> allowed) {
        Matcher m = Pattern.compile(sought).matcher(text);
        List<String> found = new ArrayList<>();
        while (m.find()) {
            if (!allowed.contains(m.group())) {
                found.add(m.group().trim() + " in line " + lineOf(text, m.start()));
            }
        }
        Check.holds(what + ": " + found, found.isEmpty());
    }

    private static void signs(byte[] bytes) {
        for (int i = 0; i < bytes.length; i++) {
            if (bytes[i] != '\n' && (bytes[i] < 32 || bytes[i] > 126)) {
                Check.holds("rule 4: byte " + i + " of the program is " + bytes[i], false);
                return;
            }
        }
        Check.holds("rule 4: the program is empty", bytes.length > 0);
    }

    private static void noWordLeftOut(String text) {
        for (String word : LEFT_OUT) {
            none("left out of the language", text, "\\b" + word + "\\b", List.of());
        }
    }

    private static void noLambda(String text) {
        none("rule 2: a lambda", text, "->", List.of());
        none("rule 2: a method reference", text, "::", List.of());
        none("an annotation", text, "@", List.of());
    }

    private static void noStaticBlock(String text) {
        none("rule 5: a static block", text, "static\\s*\\{", List.of());
    }

    private static void libraryAsListed(String text) {
        none("rule 4: of the library", text, "\\b(Math|Integer|Long|System|Arrays|String|Character)\\.\\w+",
                LIBRARY);
    }

    /** at() and put() alone reach into rows, and both look at the index first. */
    private static void indicesAreLookedAt(String text) {
        Check.due("rule 7: at() looks first", times(text,
                "return row != null && i >= 0 && i < row\\.length \\? row\\[i\\] : 0;"), 1);
        Check.due("rule 7: put() looks first", times(text,
                "if \\(row != null && i >= 0 && i < row\\.length\\) \\{\\s+row\\[i\\] = value;"), 1);
        Check.due("rule 7: rows reached", times(text, "[\\w)\\]]\\[[^\\]]")
                - times(text, "new int\\["), 2);
    }

    private static int times(String text, String sought) {
        Matcher m = Pattern.compile(sought).matcher(text);
        int times = 0;
        while (m.find()) {
            times++;
        }
        return times;
    }

    /** Divisors are numbers above 0, or tested in the line that they stand in or just ahead. */
    private static void divisorsAreLookedAt(String text) {
        Check.due("rule 7: by b", times(text, "b != 0; step\\+\\+\\) \\{\\s+long rest = a % b;"), 1);
        Check.due("rule 7: above by common", times(text, "common > 0 \\? top / common : 0;"), 1);
        Check.due("rule 7: below by common", times(text, "common > 0 \\? bottom / common : 1;"), 1);
        none("rule 7: a divisor", text, "[/%]=? *(?![ 1-9])\\S+",
                List.of("% b;", "/ common"));
    }

    /** The one room has space for few: all rows are made with the object, none by a call. */
    private static void nothingIsMadeByCalls(String text) {
        int withFields = times(text, "(?m)^ {4,8}private final [\\w\\[\\]]+ \\w+ = new .*;$");
        int inConstructor = times(text, "(?m)^ {12}this\\.cells = new int\\[this\\.most \\* WIDTH\\];$");
        Check.due("rule 12: made in a constructor", inConstructor, 1);
        Check.due("rule 12: made in all", times(text, "\\bnew\\b"), withFields + inConstructor);
    }

    private static void noTextsJoined(String whole) {
        none("rule 10: texts joined by +", whole, "\"\\s*\\+|\\+\\s*\"", List.of());
    }

    /** By their first and last lines: from a head to the brace that stands as far in. */
    private static void methodsAreShort(String text) {
        Matcher m = Pattern.compile("(?m)^( {4}| {8})(public|private) [^=;{]*\\) \\{$").matcher(text);
        int methods = 0;
        while (m.find()) {
            int end = text.indexOf("\n" + m.group(1) + "}", m.start());
            methods++;
            Check.holds("rule 11: too long: " + m.group().trim(),
                    end > 0 && lineOf(text, end) - lineOf(text, m.start()) < 60);
        }
        Check.holds("rule 11: methods were found: " + methods, methods > 100);
    }
}
