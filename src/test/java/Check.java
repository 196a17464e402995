import java.util.NoSuchElementException;
import java.util.function.BooleanSupplier;
import java.util.function.LongSupplier;

/** What the project's tests share: telling a text, and counting the answers that are not as due. */
final class Check {
    private static int asked = 0;
    private static int wrong = 0;
    private static String words = "";

    private Check() { }

    /** The words of the document that the answers asked for from now on are about. */
    static void says(String sentence) {
        words = "\"" + sentence + "\": ";
    }

    static void due(String what, long got, long want) {
        asked++;
        if (got != want) {
            wrong++;
            System.out.println(words + what + " answered " + got + ", due is " + want);
        }
    }

    static void due(String what, boolean got, boolean want) {
        due(what, got ? 1 : 0, want ? 1 : 0);
    }

    /** Feeds a text, filled up with blanks to a multiple of twenty bytes. */
    static void feed(UphillCarts x, String text) {
        for (int i = 0; i < text.length(); i += 20) {
            int[] five = new int[5];
            for (int k = 0; k < 20; k++) {
                five[k / 4] = five[k / 4] << 8 | (i + k < text.length() ? text.charAt(i + k) & 255 : 32);
            }
            x.feed(five[0], five[1], five[2], five[3], five[4]);
        }
    }

    static int tell(UphillCarts x, String text) {
        feed(x, text);
        return x.text(text.length());
    }

    /** A new object with a text that has no fault. */
    static UphillCarts of(String text) {
        UphillCarts x = new UphillCarts();
        int lines = tell(x, text);
        if (lines < 0) {
            due("text '" + text + "', fault " + x.fault(0) + " at " + x.fault(1), lines, 0);
        }
        return x;
    }

    /** The fault of a text and its place. */
    static void fault(String text, int how, int place) {
        UphillCarts x = new UphillCarts();
        int lines = tell(x, text);
        due("'" + text + "' text()", lines < 0, how != 0);
        due("'" + text + "' fault(0)", x.fault(0), how);
        due("'" + text + "' fault(1)", x.fault(1), place);
    }

    static void good(String text) {
        fault(text, 0, -1);
    }

    /** A text whose fault is where the sign ^ stands, which is none of the text's own. */
    static void faultAtMark(String text, int how) {
        int place = text.indexOf('^');
        fault(text.substring(0, place) + text.substring(place + 1), how, place);
    }

    /** All that can be seen of the cart and of what can be undone. */
    static String state(UphillCarts x) {
        StringBuilder b = new StringBuilder();
        for (int what = 0; what <= 13; what++) {
            b.append(x.count(what)).append(' ');
        }
        int bends = x.count(0);
        for (int bend = 0; bend < bends; bend++) {
            b.append(x.look(bend, 3)).append(' ');
        }
        return b.toString();
    }

    /** A call that must have this answer and leave all as it is. */
    static void refused(UphillCarts x, String call, LongSupplier made, long answer) {
        String before = state(x);
        due(call, made.getAsLong(), answer);
        String behind = state(x);
        due(call + " leaves all as it is, " + before + "; " + behind, before.equals(behind), true);
    }

    static void refused(UphillCarts x, String call, BooleanSupplier made) {
        refused(x, call, () -> made.getAsBoolean() ? 1 : 0, 0);
    }

    /** The numbers that are drawn from a seed on, one behind another. */
    static int[] numbers(long seed, int n) {
        int[] all = new int[n];
        long last = seed;
        for (int i = 0; i < n; i++) {
            last = (last * 1103515245L + 12345L) % 2147483648L;
            all[i] = (int) (last / 65536);
        }
        return all;
    }

    /** What look() throws: 1 IndexOutOfBoundsException, 2 NoSuchElementException, 3 another, 0 nothing. */
    static int thrownByLook(UphillCarts x, int bend, int what) {
        try {
            x.look(bend, what);
            return 0;
        } catch (RuntimeException e) {
            // None of a class below them: those are the machine's.
            return e.getClass() == IndexOutOfBoundsException.class ? 1 : e.getClass() == NoSuchElementException.class ? 2 : 3;
        }
    }

    static int letters(String name) {
        int letters = 0;
        for (int i = 0; i < 6; i++) {
            letters = letters << 5 | (i < name.length() ? name.charAt(i) - 'a' + 1 : 0);
        }
        return letters;
    }

    static void end(String test) {
        System.out.println(test + ": " + asked + " asked, " + wrong + " not as due");
        if (wrong != 0) {
            System.exit(1);
        }
    }
}
