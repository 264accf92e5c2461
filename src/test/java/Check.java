import java.io.IOException;
import java.lang.reflect.InvocationTargetException;
import java.lang.reflect.Method;
import java.nio.file.Files;
import java.nio.file.Path;
import java.util.Arrays;
import java.util.Comparator;
import java.util.HashMap;
import java.util.Map;

/** What the tests share: it counts answers that are not as due, and says a text to the tape. */
abstract class Check {
    static final int LEAST = Integer.MIN_VALUE, MOST = Integer.MAX_VALUE;

    private static int wrong;
    private static int asked;
    private static String running = "";
    private static String sentence = "";
    private static Map<String, String> document;

    /** A commune as far as a test needs it. */
    interface Begin {
        AlpCommune make();
    }

    interface Call {
        int on(AlpCommune x);
    }

    static void due(String call, long got, long want) {
        asked++;
        if (got == want) return;
        wrong++;
        System.out.println(sentence + call + " answered " + got + ", due is " + want);
    }

    /**
     * Runs a class's tests of single sentences: its methods that are named by a part of the document (p7 is promise 7, t4
     * what stands behind "==== 4", a the answers) and some words of a sentence there.
     */
    static void runSentences(Class<?> tests) throws IllegalAccessException {
        Method[] methods = tests.getDeclaredMethods();
        Arrays.sort(methods, Comparator.comparing(Method::getName));
        for (Method m : methods) {
            if (!m.getName().matches("(p\\d+|t\\d|a)_\\w+")) continue;
            running = m.getName();
            sentence = "";
            try {
                m.invoke(null);
            } catch (InvocationTargetException e) {
                e.getCause().printStackTrace(System.out);
                due(running + " throws", 1, 0);
            }
            due(running + " tells its sentence", sentence.isEmpty() ? 0 : 1, 1);
        }
        end();
    }

    /** The words of the document that the running test is about. They have to stand there so, and the test's name in them. */
    static void sentence(String words) {
        String part = partOf(running);
        sentence = part + ", \"" + words + "\": ";
        due("is in the document", document().getOrDefault(part, "").contains(words) ? 1 : 0, 1);
        String name = running.substring(running.indexOf('_') + 1);
        due(name + " is of these words", signs(words).contains(signs(name)) ? 1 : 0, 1);
    }

    /** The part of the document that a test's name begins with. */
    static String partOf(String name) {
        String part = name.substring(0, Math.max(0, name.indexOf('_')));
        if (part.equals("a")) return "Answers";
        return (part.startsWith("p") ? "Promise " : "==== ") + part.substring(1);
    }

    private static String signs(String words) {
        return words.toLowerCase().replaceAll("[^a-z0-9]", "");
    }

    /** The document's parts by name, each as one line. */
    static Map<String, String> document() {
        if (document == null) document = readDocument();
        return document;
    }

    private static Map<String, String> readDocument() {
        Map<String, String> parts = new HashMap<>();
        String part = "";
        try {
            for (String line : Files.readAllLines(Path.of("../shared/DOC.md"))) {
                if (line.startsWith("## ")) part = line.substring(3).split(":")[0];
                if (line.startsWith("==== ")) part = line.substring(0, 6);
                if (line.startsWith("Answers: ")) part = "Answers";
                parts.merge(part, line.trim(), (before, more) -> before + " " + more);
            }
        } catch (IOException e) {
            due("the document can be read", 0, 1);
        }
        parts.replaceAll((name, text) -> text.replaceAll("\\s+", " "));
        return parts;
    }

    /** A refused call: what it answers, and that a commune of which it was asked is like one of which it was not. */
    static void refused(String call, int want, Begin begin, Call c) {
        AlpCommune x = begin.make();
        due(call, c.on(x), want);
        String other = Look.firstOther(Look.at(x), Look.at(begin.make()));
        due(call + " changes nothing; " + other, other.isEmpty() ? 0 : 1, 0);
    }

    /** The same answer is due for each of several wrong numbers. */
    static int[] outside(int least, int most) {
        return new int[] {LEAST, least - 1, most + 1, MOST};
    }

    /** Feeds a text, four bytes at a time: what the last feed answered. */
    static int say(AlpCommune x, String text) {
        int length = x.feed(0, 0);
        for (int i = 0; i < text.length(); i += 4) {
            int n = Math.min(4, text.length() - i), bytes = 0;
            for (int j = 0; j < n; j++) bytes = bytes << 8 | text.charAt(i + j);
            length = x.feed(bytes, n);
        }
        return length;
    }

    /** A word with the votes of all houses. */
    static int pass(AlpCommune x, String text) {
        say(x, text);
        return x.vote((1 << x.count(0)) - 1, 0);
    }

    static void live(AlpCommune x, int days) {
        for (int left = days; left > 0; left -= 120) x.days(Math.min(left, 120));
    }

    static void end() {
        System.out.println(asked + " answers, " + wrong + " not as due");
        if (wrong != 0) System.exit(1);
    }
}
