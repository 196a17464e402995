/** What the project's tests share: telling a text, and counting the answers that are not as due. */
final class Check {
    private static int asked = 0;
    private static int wrong = 0;

    private Check() { }

    static void due(String what, long got, long want) {
        asked++;
        if (got != want) {
            wrong++;
            System.out.println(what + " answered " + got + ", due is " + want);
        }
    }

    static void due(String what, boolean got, boolean want) {
        due(what, got ? 1 : 0, want ? 1 : 0);
    }

    /** Feeds a text, filled up with blanks to a multiple of twenty bytes. */
    static void feed(UphillCarts x, String text) {
        for (int i = 0; i < text.length(); i += 20) {
            int[] five = new int[5];
            for (int k = 0; k < 20; k++) {
                five[k / 4] = five[k / 4] << 8 | (i + k < text.length() ? text.charAt(i + k) & 255 : 32);
            }
            x.feed(five[0], five[1], five[2], five[3], five[4]);
        }
    }

    static int tell(UphillCarts x, String text) {
        feed(x, text);
        return x.text(text.length());
    }

    /** A new object with a text that has no fault. */
    static UphillCarts of(String text) {
        UphillCarts x = new UphillCarts();
        int lines = tell(x, text);
        if (lines < 0) {
            due("text '" + text + "', fault " + x.fault(0) + " at " + x.fault(1), lines, 0);
        }
        return x;
    }

    /** The fault of a text and its place. */
    static void fault(String text, int how, int place) {
        UphillCarts x = new UphillCarts();
        int lines = tell(x, text);
        due("'" + text + "' text()", lines < 0, how != 0);
        due("'" + text + "' fault(0)", x.fault(0), how);
        due("'" + text + "' fault(1)", x.fault(1), place);
    }

    /** What look() throws: 1 IndexOutOfBoundsException, 2 NoSuchElementException, 0 nothing. */
    static int thrownByLook(UphillCarts x, int bend, int what) {
        try {
            x.look(bend, what);
            return 0;
        } catch (IndexOutOfBoundsException e) {
            return 1;
        } catch (java.util.NoSuchElementException e) {
            return 2;
        }
    }

    static int letters(String name) {
        int letters = 0;
        for (int i = 0; i < 6; i++) {
            letters = letters << 5 | (i < name.length() ? name.charAt(i) - 'a' + 1 : 0);
        }
        return letters;
    }

    static void end(String test) {
        System.out.println(test + ": " + asked + " asked, " + wrong + " not as due");
        if (wrong != 0) {
            System.exit(1);
        }
    }
}
