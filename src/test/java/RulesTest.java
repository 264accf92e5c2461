import java.io.IOException;
import java.lang.reflect.Constructor;
import java.lang.reflect.Field;
import java.lang.reflect.Method;
import java.lang.reflect.Modifier;
import java.nio.file.Files;
import java.nio.file.Path;
import java.util.Arrays;
import java.util.Set;
import java.util.TreeSet;
import java.util.regex.Matcher;
import java.util.regex.Pattern;

/** What of LANGUAGE.md can be seen by a search of the source's text and by reflection. */
public final class RulesTest {
    private static final String[] FACE = {"house 4", "change 3", "told 2", "counts 0", "right 3", "split 2", "join 2", "lend 3", "leave 2",
        "rightOf 2", "parts 2", "feed 2", "vote 2", "voids 1", "value 4", "why 4", "weather 3", "sky 5", "skyOf 2", "alp 2", "alpOf 2",
        "drive 3", "home 3", "book 2", "days 1", "slope 1", "slopeOf 2", "works 2", "shut 1", "measure 0", "cheese 1", "rest 1", "fell 2",
        "channel 3", "hour 1", "gets 3", "turn 1", "work 2", "year 0", "plan 3", "act 3", "trace 1", "taken 2", "count 1", "sheet 3",
        "cell 3", "lose 2", "copy 5"};

    public static void main(String[] args) throws IOException {
        face();
        classesInside();
        words(code(Files.readString(Path.of("src/main/java/AlpCommune.java"))));
        methodLengths(Files.readString(Path.of("src/main/java/AlpCommune.java")));
        Check.end();
    }

    private static void none(String what, Set<String> found) {
        Check.due(what + " " + found, found.size(), 0);
    }

    private static void face() {
        Set<String> due = new TreeSet<>(Arrays.asList(FACE)), are = new TreeSet<>(), hidden = new TreeSet<>(), twice = new TreeSet<>();
        Set<String> names = new TreeSet<>();
        for (String name : FACE) names.add(name.split(" ")[0]);
        for (Method m : AlpCommune.class.getDeclaredMethods()) {
            if (Modifier.isPublic(m.getModifiers())) are.add(m.getName() + " " + m.getParameterCount());
            else if (!Modifier.isPrivate(m.getModifiers())) hidden.add(m.getName());
            else if (names.contains(m.getName())) twice.add(m.getName());
        }
        Check.due("the face " + are, are.equals(due) ? 1 : 0, 1);
        for (Constructor<?> c : AlpCommune.class.getDeclaredConstructors()) {
            Check.due("the constructor", c.getParameterCount() + (Modifier.isPublic(c.getModifiers()) ? 0 : 10), 0);
        }
        Set<String> fields = new TreeSet<>();
        for (Field f : AlpCommune.class.getDeclaredFields()) {
            if (Modifier.isPublic(f.getModifiers())) fields.add(f.getName());
            else if (!Modifier.isPrivate(f.getModifiers())) hidden.add(f.getName());
        }
        Check.due("public fields " + fields, fields.equals(Set.of("NONE", "BAD", "STATE", "FULL")) ? 1 : 0, 1);
        Check.due("public and final", AlpCommune.class.getModifiers(), Modifier.PUBLIC | Modifier.FINAL);
        for (Class<?> inside : AlpCommune.class.getDeclaredClasses()) {
            for (Method m : inside.getDeclaredMethods()) if (names.contains(m.getName())) twice.add(inside.getName() + "." + m.getName());
        }
        none("neither public nor private:", hidden);
        none("private with a public one's name:", twice);
    }

    private static void classesInside() {
        Class<?>[] inside = AlpCommune.class.getDeclaredClasses();
        Check.due("at most twelve classes: " + (inside.length + 1), inside.length + 1 <= 12 ? 1 : 0, 1);
        Set<String> bad = new TreeSet<>();
        checkClass(AlpCommune.class, bad);
        for (Class<?> c : inside) {
            if (!Modifier.isStatic(c.getModifiers()) || Modifier.isPublic(c.getModifiers())) bad.add(c.getName());
            checkClass(c, bad);
        }
        none("not as classes and fields are to be:", bad);
    }

    private static void checkClass(Class<?> c, Set<String> bad) {
        int fields = 0;
        for (Field f : c.getDeclaredFields()) {
            boolean isStatic = Modifier.isStatic(f.getModifiers());
            if (isStatic && !Modifier.isFinal(f.getModifiers())) bad.add(c.getName() + "." + f.getName());
            if (!isStatic) fields++;
        }
        if (fields > 20) bad.add(c.getName() + " has " + fields + " fields");
        for (Method m : c.getDeclaredMethods()) if (m.getParameterCount() > 7) bad.add(c.getName() + "." + m.getName());
    }

    /** The source without its comments. */
    private static String code(String source) {
        return source.replaceAll("(?s)/\\*.*?\\*/", " ").replaceAll("//[^\n]*", " ");
    }

    private static void words(String code) {
        Set<String> found = new TreeSet<>();
        String never = "\\b(throw|throws|try|catch|finally|synchronized|assert|import|package|enum|record|interface|protected|instanceof"
            + "|volatile|transient|native|strictfp|var|yield|equals|hashCode|toString|float|double|Float|Double|Object|Exception)\\b"
            + "|->|::|\\bnew\\s+\\w+\\s*\\([^)]*\\)\\s*\\{|[^\\x00-\\x7F]|\"\\s*\\+|\\+\\s*\"";
        Matcher m = Pattern.compile(never).matcher(code);
        while (m.find()) found.add(m.group());
        none("what the language leaves out:", found);
        Set<String> calls = new TreeSet<>();
        Matcher c = Pattern.compile("\\b(Math|Integer|Long|System|Arrays|String|StringBuilder)\\.(\\w+)").matcher(code);
        while (c.find()) calls.add(c.group());
        calls.removeAll(Set.of("Math.min", "Math.max", "Integer.bitCount", "System.arraycopy"));
        none("calls of the library that were not looked at:", calls);
    }

    /** Methods stay short: some sixty lines. */
    private static void methodLengths(String source) {
        Set<String> found = new TreeSet<>();
        String[] lines = source.split("\n");
        int start = 0;
        for (int i = 0; i < lines.length; i++) {
            if (lines[i].matches("    (    )?(public|private) .*\\) \\{")) start = i;
            if (lines[i].matches("    (    )?\\}") && i - start > 60) found.add("line " + (start + 1));
            if (lines[i].matches("    (    )?\\}")) start = i;
        }
        none("long methods:", found);
    }
}
