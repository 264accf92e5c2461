import java.io.IOException;
import java.nio.file.DirectoryStream;
import java.nio.file.Files;
import java.nio.file.Path;
import java.util.Arrays;
import java.util.Map;
import java.util.TreeMap;
import java.util.regex.Matcher;
import java.util.regex.Pattern;

/**
 * Whether each boundary case that the document names stands in words that a test quotes (by Check.sentence): each range
 * of numbers, each refusal, and each of the words that name an edge, in "==== 1" to "==== 6" and the promises 1 to 49.
 */
public final class SentencesTest {
    private static final Pattern EDGE = Pattern.compile("-?\\d+ \\.\\. -?\\d+|\\b(NONE|BAD|STATE|FULL)\\b|(?<![\\w.])-\\d+"
        + "|\\b(at most|at least|or more|or less|or ahead|and more|above|below|fewer|more than|so many|beyond|too early|cut"
        + "|first \\d+|as far as|as long as|passed over|at first|without|bound|behind now|modulo|wrapping|others than|one more"
        + "|none both ways|half of|of several|once|nothing|nobody|missing|SHUT|sold|goes round|the lowest|till ahead"
        + "|kept|LENT now|digits|binds closer|unless|lesser|greatest|uppermost)\\b", Pattern.CASE_INSENSITIVE);

    public static void main(String[] args) throws IOException {
        Map<String, boolean[]> quoted = new TreeMap<>();
        Map<String, String> document = Check.document();
        for (int i = 1; i <= 6; i++) quoted.put("==== " + i, new boolean[document.get("==== " + i).length()]);
        for (int i = 1; i <= 49; i++) quoted.put("Promise " + i, new boolean[document.get("Promise " + i).length()]);
        quoted.put("Answers", new boolean[document.get("Answers").length()]);
        try (DirectoryStream<Path> tests = Files.newDirectoryStream(Path.of("src/test/java"), "*Test.java")) {
            for (Path test : tests) mark(Files.readString(test), quoted, document);
        }
        for (String part : quoted.keySet()) edges(part, document.get(part), quoted.get(part));
        Check.end();
    }

    /** Marks what a test's sentences quote. */
    private static void mark(String source, Map<String, boolean[]> quoted, Map<String, String> document) {
        Matcher test = Pattern.compile("static void (\\w+_\\w+)\\(\\) \\{\\s*sentence\\(\"(.*?)\"\\);", Pattern.DOTALL).matcher(source);
        while (test.find()) {
            String part = Check.partOf(test.group(1)), words = test.group(2).replaceAll("\"\\s*\\+\\s*\"", "");
            int at = document.get(part).indexOf(words);
            Check.due(test.group(1) + " quotes the document", at >= 0 ? 1 : 0, 1);
            for (; at >= 0; at = document.get(part).indexOf(words, at + 1)) Arrays.fill(quoted.get(part), at, at + words.length(), true);
        }
    }

    private static void edges(String part, String text, boolean[] isQuoted) {
        // A promise's text begins behind the call's face, and behind the answers it is told which calls are together.
        int begin = part.startsWith("Promise") ? text.indexOf("`: ") : part.equals("Answers") ? 0 : "==== 1 ".length();
        int end = part.equals("Answers") ? text.indexOf("Ahead of the calls") : text.length();
        Check.due(part + ": a test quotes some of it", firstQuoted(isQuoted) < end ? 1 : 0, 1);
        Matcher edge = EDGE.matcher(text).region(begin, end);
        while (edge.find()) {
            boolean is = true;
            for (int i = edge.start(); i < edge.end(); i++) is &= isQuoted[i];
            String around = text.substring(Math.max(0, edge.start() - 30), Math.min(text.length(), edge.end() + 20));
            Check.due(part + ": a test quotes \"" + edge.group() + "\" in .." + around + "..", is ? 1 : 0, 1);
        }
    }

    private static int firstQuoted(boolean[] isQuoted) {
        int i = 0;
        while (i < isQuoted.length && !isQuoted[i]) i++;
        return i;
    }
}
