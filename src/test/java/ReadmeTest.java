import java.io.ByteArrayOutputStream;
import java.io.File;
import java.io.IOException;
import java.io.PrintStream;
import java.lang.reflect.Method;
import java.net.URL;
import java.net.URLClassLoader;
import java.nio.file.DirectoryStream;
import java.nio.file.Files;
import java.nio.file.Path;
import java.util.ArrayList;
import java.util.HashMap;
import java.util.List;
import java.util.Map;
import java.util.TreeSet;
import java.util.regex.Matcher;
import java.util.regex.Pattern;
import javax.tools.ToolProvider;

/**
 * README.md: the calls of its example are made, as they stand there, and each answers as is told behind it; the example
 * compiles and runs as README.md says; each call of the class and each test is named there.
 */
public final class ReadmeTest {
    private static final Path README = Path.of("README.md");
    private static final String COMPILE = "javac -d out src/main/java/AlpCommune.java Mine.java";
    private static final String RUN = "java -cp out Mine";
    /** A call with the answer told behind it: perhaps kept by a name, or printed. */
    private static final Pattern CALL = Pattern.compile(
        "(?:int (\\w+) = )?(System\\.out\\.println\\()?x\\.(\\w+)\\(([^()]*)\\)(\\))?; +// (-?\\d+)(?:: .*)?");
    private static final Pattern OTHER = Pattern.compile(
        "|// .*|\\}|public final class Mine \\{|public static void main\\(String\\[\\] args\\) \\{|AlpCommune x = new AlpCommune\\(\\);");

    private static final Map<String, Integer> named = new HashMap<>();
    private static final StringBuilder printed = new StringBuilder();

    public static void main(String[] args) throws IOException, ReflectiveOperationException {
        String readme = Files.readString(README);
        List<String> example = example(readme);
        makeCalls(example);
        compileAndRun(readme, example);
        namesCalls(readme);
        namesTests(readme);
        Check.end();
    }

    private static void is(String what, boolean is) {
        Check.due(what, is ? 1 : 0, 1);
    }

    /** The lines of the one block of Java. */
    private static List<String> example(String readme) {
        List<String> lines = new ArrayList<>();
        int blocks = 0;
        boolean inside = false;
        for (String line : readme.split("\n")) {
            if (line.equals("```java")) {
                inside = true;
                blocks++;
            } else if (line.startsWith("```")) {
                inside = false;
            } else if (inside) {
                lines.add(line);
            }
        }
        Check.due("blocks of Java", blocks, 1);
        return lines;
    }

    private static void makeCalls(List<String> example) throws ReflectiveOperationException {
        AlpCommune x = new AlpCommune();
        int calls = 0;
        for (String line : example) {
            Matcher call = CALL.matcher(line.trim());
            if (!call.matches()) {
                is("this line can be read: " + line, OTHER.matcher(line.trim()).matches());
                continue;
            }
            calls++;
            int got = ask(x, call.group(3), call.group(4));
            Check.due(line.trim(), got, Integer.parseInt(call.group(6)));
            if (call.group(1) != null) named.put(call.group(1), got);
            is("printed whole: " + line, (call.group(2) == null) == (call.group(5) == null));
            if (call.group(2) != null) printed.append(got).append('\n');
        }
        is("there are calls, and not more than an object is for: " + calls, calls > 50 && calls <= 512);
    }

    private static int ask(AlpCommune x, String name, String arguments) throws ReflectiveOperationException {
        String[] texts = arguments.isEmpty() ? new String[0] : arguments.split(", ");
        for (Method m : AlpCommune.class.getMethods()) {
            if (!m.getName().equals(name) || m.getParameterCount() != texts.length) continue;
            Object[] values = new Object[texts.length];
            for (int i = 0; i < texts.length; i++) {
                if (m.getParameterTypes()[i] == boolean.class) values[i] = Boolean.valueOf(texts[i]);
                else values[i] = named.containsKey(texts[i]) ? named.get(texts[i]) : Integer.decode(texts[i]);
            }
            return (Integer) m.invoke(x, values);
        }
        is("there is such a call: " + name + "(" + arguments + ")", false);
        return 0;
    }

    /** As README.md tells it, but in a directory that is gone afterwards. */
    private static void compileAndRun(String readme, List<String> example) throws IOException, ReflectiveOperationException {
        is("it tells how to compile", readme.contains("    " + COMPILE + "\n"));
        is("it tells how to run", readme.contains("    " + RUN + "\n"));
        Path place = Files.createTempDirectory("readme");
        Path mine = place.resolve("Mine.java"), out = Files.createDirectory(place.resolve("out"));
        Files.write(mine, example);
        String[] words = COMPILE.replace(" out ", " " + out + " ").replace("Mine.java", mine.toString()).substring(6).split(" ");
        int exit = ToolProvider.getSystemJavaCompiler().run(null, null, null, words);
        Check.due(COMPILE, exit, 0);
        if (exit == 0) Check.due(RUN + " prints " + printed, printsAsTold(out) ? 1 : 0, 1);
        remove(place.toFile());
    }

    private static boolean printsAsTold(Path out) throws IOException, ReflectiveOperationException {
        PrintStream screen = System.out;
        ByteArrayOutputStream heard = new ByteArrayOutputStream();
        // The parent knows the platform alone, so that the classes compiled here are the ones that run.
        try (URLClassLoader loader = new URLClassLoader(new URL[] {out.toUri().toURL()}, ClassLoader.getPlatformClassLoader())) {
            System.setOut(new PrintStream(heard, true));
            loader.loadClass("Mine").getMethod("main", String[].class).invoke(null, (Object) new String[0]);
        } finally {
            System.setOut(screen);
        }
        return heard.toString().replace("\r\n", "\n").contentEquals(printed);
    }

    private static void remove(File file) {
        File[] inside = file.listFiles();
        if (inside != null) for (File each : inside) remove(each);
        file.delete();
    }

    private static void namesCalls(String readme) {
        int begin = readme.indexOf("### The calls"), end = readme.indexOf("### An example");
        is("it has a part with the calls", begin >= 0 && end > begin);
        if (begin < 0 || end <= begin) return;
        TreeSet<String> told = new TreeSet<>(), are = new TreeSet<>();
        Matcher name = Pattern.compile("`(\\w+)`").matcher(readme.substring(begin, end));
        while (name.find()) is(name.group() + " stands there once", told.add(name.group(1)));
        for (Method m : AlpCommune.class.getDeclaredMethods()) if (m.toString().startsWith("public ")) are.add(m.getName());
        is("it names the calls that there are: " + told, told.equals(are));
    }

    private static void namesTests(String readme) throws IOException {
        TreeSet<String> told = new TreeSet<>(), are = new TreeSet<>();
        Matcher name = Pattern.compile("\n\\| `(\\w+Test)` \\|").matcher(readme);
        while (name.find()) is(name.group(1) + " stands there once", told.add(name.group(1)));
        try (DirectoryStream<Path> tests = Files.newDirectoryStream(Path.of("src/test/java"), "*Test.java")) {
            for (Path test : tests) are.add(test.getFileName().toString().replace(".java", ""));
        }
        is("it names the tests that there are: " + told, told.equals(are));
    }
}
