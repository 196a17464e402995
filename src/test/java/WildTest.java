import java.lang.reflect.InvocationTargetException;
import java.lang.reflect.Method;
import java.lang.reflect.Modifier;
import java.util.Arrays;
import java.util.Comparator;
import java.util.NoSuchElementException;

/** Any arguments in any state: no call throws but look(), and that only what the document names. */
public final class WildTest {
    private static final int[] VALUES = {Integer.MIN_VALUE, Integer.MIN_VALUE + 1, -10000, -10, -2, -1, 0, 1, 2, 3, 5, 6, 8, 9, 10, 13, 14, 20, 23,
        24, 31, 32, 50, 51, 63, 64, 700, 9999, 1 << 25, 1 << 30, Integer.MAX_VALUE - 1, Integer.MAX_VALUE};
    private static final int STATES = 9;
    private static final int CALLS = 400;
    private static long next = 1;

    private static int any(int n) {
        next = next * 6364136223846793005L + 1442695040888963407L;
        return (int) ((next >>> 33) % n);
    }

    private static String full() {
        StringBuilder b = new StringBuilder();
        for (int i = 0; i < 9; i++) {
            b.append("bend ").append((char) ('a' + i)).append(' ').append(i * 12).append(" wind -9;");
        }
        for (int i = 0; i < 6; i++) {
            b.append("goods ").append((char) ('a' + i)).append(" 60 0 99;");
        }
        return b + "bag r 9 3;bag s 9 3;bag t 9 3;depot c 9;thief c 99;stone 20;horse 199 99;law lift size*height/(hour-5);law pull size/(air-4);";
    }

    private static UphillCarts inState(int state) {
        UphillCarts x = new UphillCarts();
        switch (state) {
            case 0: return x;
            case 1: x.keep(); return x;
            case 2: Check.tell(x, "bend a 90;goods g 1 1 1;bag s 9 3;depot a 9;"); return x;
            case 3: Check.tell(x, "goods g 1 1 1;bag s 9 3;"); return x;
            case 4: Check.tell(x, full()); x.stones(9); x.tie(2, 3); return x;
            case 5: Check.tell(x, full()); x.tie(0, 3); x.load(5, true); x.go(2); x.trade(9); x.see(8, 23, -9999, 9999); x.strike(0); return x;
            case 6: Check.tell(x, "bend a 90;bend b 90;bag s 9 3;goods g 1 1 1;"); x.tie(0, 3); x.keep(); x.go(1); return x;
            case 7: Check.tell(x, "bend a 0;bend b 0;bag s 9 3;goods g 1 1 1;law lift 1/0;"); x.go(50); return x;
            default: Check.tell(x, full()); Check.tell(x, "bend a 0;bend b 0;bend c 0;#"); Check.feed(x, "bend a 1;"); return x;
        }
    }

    private static Object[] arguments(Method m) {
        Class<?>[] of = m.getParameterTypes();
        Object[] all = new Object[of.length];
        for (int i = 0; i < of.length; i++) {
            all[i] = of[i] == boolean.class ? (Object) (any(2) == 0) : (Object) VALUES[any(VALUES.length)];
        }
        return all;
    }

    private static void call(UphillCarts x, Method m, Object[] with) throws Exception {
        String told = m.getName() + Arrays.toString(with);
        try {
            m.invoke(x, with);
            Check.due(told, 0, 0);
        } catch (InvocationTargetException e) {
            Class<?> thrown = e.getCause().getClass();
            boolean named = thrown == IndexOutOfBoundsException.class || thrown == NoSuchElementException.class;
            Check.due(told + " throws " + thrown, named && m.getName().equals("look"), true);
        }
    }

    public static void main(String[] args) throws Exception {
        // By name, as the machine tells them in any order, and a test asks the same each time.
        Method[] all = Arrays.stream(UphillCarts.class.getDeclaredMethods()).filter(m -> Modifier.isPublic(m.getModifiers()))
            .sorted(Comparator.comparing(Method::getName)).toArray(Method[]::new);
        for (Method m : all) {
            int times = m.getParameterCount() < 2 ? 1 : m.getParameterCount();
            for (int state = 0; state < STATES; state++) {
                for (int time = 0; time < times; time++) {
                    UphillCarts x = inState(state);
                    for (int i = 0; i < CALLS; i++) {
                        Object[] with = arguments(m);
                        if (m.getParameterCount() == 1 && m.getParameterTypes()[0] == int.class) {
                            with[0] = VALUES[i % VALUES.length];
                        }
                        call(x, m, with);
                    }
                }
            }
        }
        // All methods in one run, so that they meet states that none of the above has.
        for (int run = 0; run < 300; run++) {
            UphillCarts x = inState(run % STATES);
            for (int i = 0; i < CALLS; i++) {
                Method m = all[any(all.length)];
                call(x, m, arguments(m));
            }
        }
        Check.end("WildTest");
    }
}
