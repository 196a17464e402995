import java.lang.reflect.Method;
import java.nio.file.Files;
import java.nio.file.Paths;
import java.util.regex.Matcher;
import java.util.regex.Pattern;

/** The calls that README.md shows have the answers that it shows, and it names every call of the face. */
public final class ReadmeTest {
    private static final Pattern CALL = Pattern.compile("(?m)^x\\.(\\w+)\\(([^)]*)\\); +// (true|false|-?\\d+)");

    public static void main(String[] args) throws Exception {
        String readme = Files.readString(Paths.get("README.md"));
        UphillCarts x = new UphillCarts();
        Matcher call = CALL.matcher(readme);
        int calls = 0;
        while (call.find()) {
            Object answer = answer(x, call.group(1), call.group(2).isEmpty() ? new String[0] : call.group(2).split(", "));
            Check.due(call.group() + ", answered " + answer, call.group(3).equals(String.valueOf(answer)), true);
            calls++;
        }
        Check.due("calls are shown", calls >= 15, true);
        for (Method of : UphillCarts.class.getMethods()) {
            if (of.getDeclaringClass() == UphillCarts.class) {
                Check.due("README.md names " + of.getName(), readme.contains("`" + of.getName() + "`"), true);
            }
        }
        Check.end("ReadmeTest");
    }

    private static Object answer(UphillCarts x, String name, String[] given) throws Exception {
        for (Method of : UphillCarts.class.getMethods()) {
            if (of.getName().equals(name) && of.getDeclaringClass() == UphillCarts.class && of.getParameterCount() == given.length) {
                Object[] values = new Object[given.length];
                for (int i = 0; i < given.length; i++) {
                    values[i] = of.getParameterTypes()[i] == boolean.class ? (Object) Boolean.valueOf(given[i]) : Integer.decode(given[i]);
                }
                return of.invoke(x, values);
            }
        }
        return "no such call";
    }
}
