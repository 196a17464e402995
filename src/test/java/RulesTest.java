import java.nio.file.Files;
import java.nio.file.Paths;
import java.util.List;
import java.util.regex.Pattern;

/** What of LANGUAGE.md can be seen in the lines of the file. */
public final class RulesTest {
    private static final String[] REFUSED = {"->", "::", "\\btry\\b", "\\bcatch\\b", "\\bfinally\\b", "\\bassert\\b", "\\bsynchronized\\b",
        "\\bpackage\\b", "Exact\\b", "\\bstatic \\{", "\\bRandom\\b", "System\\.(?!arraycopy)", "\\bThread\\b", "\\bdouble\\b", "\\bfloat\\b",
        "\" \\+", "\\+ \"", "\\.(equals|hashCode|toString)\\(", "\\bvar\\b", "@", "\\bimport (?!java\\.util\\.NoSuchElementException;)"};

    public static void main(String[] args) throws Exception {
        List<String> lines = Files.readAllLines(Paths.get("src/main/java/UphillCarts.java"));
        int began = -1;
        String open = "";
        for (int i = 0; i < lines.size(); i++) {
            String line = lines.get(i);
            String code = line.trim().startsWith("*") || line.trim().startsWith("/*") || line.trim().startsWith("//") ? "" : line;
            for (String bad : REFUSED) {
                Check.due("line " + (i + 1) + " has " + bad, Pattern.compile(bad).matcher(code).find(), false);
            }
            for (char c : line.toCharArray()) {
                Check.due("line " + (i + 1) + " has a sign beyond 127", c > 0 && c < 128, true);
            }
            // A method's or constructor's head, and the brace at the same depth that ends it.
            if (code.matches("( {4}| {8})[A-Za-z].*\\) .*\\{") && !code.trim().startsWith("for")) {
                began = i;
                open = code.substring(0, code.length() - code.stripLeading().length());
                String inside = code.substring(code.indexOf('(') + 1, code.indexOf(')'));
                Check.due("line " + (i + 1) + " has seven parameters at most", inside.split(",").length <= 7, true);
            }
            if (began >= 0 && line.equals(open + "}")) {
                Check.due("the method at line " + (began + 1) + " is short", i - began < 60, true);
                began = -1;
            }
        }
        Check.end("RulesTest");
    }
}
