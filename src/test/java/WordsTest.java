import java.io.IOException;
import java.nio.file.DirectoryStream;
import java.nio.file.Files;
import java.nio.file.Path;
import java.nio.file.Paths;
import java.util.ArrayList;
import java.util.List;
import java.util.regex.Matcher;
import java.util.regex.Pattern;

/** Every word of the document's terms and promises stands above some test's answers, and every test's words stand in the document. */
public final class WordsTest {
    private static final Pattern SAYS = Pattern.compile("Check\\.says\\(((?:\\s*\\+?\\s*\"(?:[^\"\\\\]|\\\\.)*\")+)\\)");
    private static final Pattern PART = Pattern.compile("\"((?:[^\"\\\\]|\\\\.)*)\"");
    // What the document has beside its words: headings, the heads of calls, fences, the marks of its parts.
    private static final Pattern BESIDE = Pattern.compile("(?m)^## .*$|^```.*$|^`[^`]*`|^==== \\d\\.");
    private static final Pattern WORD = Pattern.compile("[A-Za-z0-9]+");

    public static void main(String[] args) throws IOException {
        String all = Files.readString(Paths.get("../shared/DOC.md"));
        int from = all.indexOf("## Terms");
        int to = all.indexOf("## Not promised");
        Check.due("the document has terms and promises", from >= 0 && to > from, true);
        String text = from >= 0 && to > from ? all.substring(from, to) : "";
        boolean[] told = new boolean[text.length()];
        Matcher beside = BESIDE.matcher(text);
        while (beside.find()) {
            mark(told, beside.start(), beside.end());
        }
        for (String words : quoted()) {
            Check.due("stands in the document: " + words, all.contains(words), true);
            for (int at = text.indexOf(words); at >= 0; at = text.indexOf(words, at + 1)) {
                mark(told, at, at + words.length());
            }
        }
        Matcher word = WORD.matcher(text);
        while (word.find()) {
            int line = text.lastIndexOf('\n', word.start()) + 1;
            Check.due("'" + word.group() + "' is above some answers, in: " + text.substring(line, word.end()), told[word.start()], true);
        }
        Check.end("WordsTest");
    }

    private static void mark(boolean[] told, int from, int to) {
        for (int i = from; i < to; i++) {
            told[i] = true;
        }
    }

    /** What the tests of this folder give to Check.says. */
    private static List<String> quoted() throws IOException {
        List<String> all = new ArrayList<>();
        try (DirectoryStream<Path> files = Files.newDirectoryStream(Paths.get("src/test/java"), "*Test.java")) {
            for (Path file : files) {
                Matcher says = SAYS.matcher(Files.readString(file));
                while (says.find()) {
                    StringBuilder words = new StringBuilder();
                    Matcher part = PART.matcher(says.group(1));
                    while (part.find()) {
                        words.append(part.group(1));
                    }
                    all.add(words.toString());
                }
            }
        }
        return all;
    }
}
