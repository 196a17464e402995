import java.lang.reflect.Constructor;
import java.lang.reflect.Field;
import java.lang.reflect.Method;
import java.lang.reflect.Modifier;
import java.util.Arrays;
import java.util.Set;
import java.util.TreeSet;

/** The class has the face of the document, and no other member that can be seen. */
public final class FaceTest {
    private static final String[] FACE = {
        "int feed(int,int,int,int,int)", "int text(int)", "int fault(int)", "int named(int,int)",
        "int look(int,int) java.lang.IndexOutOfBoundsException java.util.NoSuchElementException",
        "int goods(int,int)", "int bag(int,int)", "int lift(int,int,int)", "int pull(int,int)", "int net(int,int)",
        "long law(int,int,int,int)", "boolean load(int,boolean)", "boolean tie(int,int)", "boolean stones(int)", "boolean at(int)",
        "int go(int)", "int trade(int)", "int led(int,int)", "int when()", "int span(int)", "int most(int,int)", "int ballast(int)",
        "int behind(int,int)", "int ropes(int)", "int meet(int,int,int)", "int waits(int,int)", "int worth(int,int)",
        "int toll(int)", "int lands(int)", "int see(int,int,int,int)", "int strike(int)", "boolean known(int)", "int fits()",
        "int fit(int,int)", "int sure(int)", "int chance(int)", "int tried(int,int,int)", "int undo()", "int keep()", "int back()",
        "int count(int)"};

    private static String told(Method m) {
        StringBuilder b = new StringBuilder(m.getReturnType().getName() + " " + m.getName() + "(");
        Class<?>[] of = m.getParameterTypes();
        for (int i = 0; i < of.length; i++) {
            b.append(i == 0 ? "" : ",").append(of[i].getName());
        }
        b.append(")");
        for (Class<?> e : m.getExceptionTypes()) {
            b.append(" ").append(e.getName());
        }
        return b.toString();
    }

    public static void main(String[] args) throws Exception {
        Class<?> c = UphillCarts.class;
        Check.due("public final", c.getModifiers() & (Modifier.PUBLIC | Modifier.FINAL), Modifier.PUBLIC | Modifier.FINAL);
        Set<String> due = new TreeSet<>(Arrays.asList(FACE));
        Set<String> names = new TreeSet<>();
        for (String f : FACE) {
            names.add(f.substring(f.indexOf(' ') + 1, f.indexOf('(')));
        }
        int seen = 0;
        for (Method m : c.getDeclaredMethods()) {
            if (Modifier.isPrivate(m.getModifiers())) {
                Check.due("private " + m.getName() + " bears a public name", names.contains(m.getName()), false);
                continue;
            }
            seen++;
            Check.due("is due: " + told(m), due.contains(told(m)) && Modifier.isPublic(m.getModifiers())
                && !Modifier.isStatic(m.getModifiers()), true);
        }
        Check.due("methods", seen, FACE.length);
        for (Field f : c.getDeclaredFields()) {
            if (!Modifier.isPrivate(f.getModifiers())) {
                Check.due("field " + f.getName(), f.getName().equals("NONE") && f.getType() == int.class
                    && Modifier.isPublic(f.getModifiers()) && Modifier.isFinal(f.getModifiers()), true);
            }
            if (Modifier.isStatic(f.getModifiers())) {
                Check.due("static " + f.getName() + " is final", Modifier.isFinal(f.getModifiers()), true);
            }
        }
        Constructor<?>[] made = c.getDeclaredConstructors();
        Check.due("constructors", made.length, 1);
        Check.due("public, without parameters", Modifier.isPublic(made[0].getModifiers()) && made[0].getParameterCount() == 0, true);
        for (Class<?> inside : c.getDeclaredClasses()) {
            Check.due(inside.getName() + " is static and not public", Modifier.isStatic(inside.getModifiers())
                && !Modifier.isPublic(inside.getModifiers()) && !Modifier.isProtected(inside.getModifiers()), true);
            for (Method m : inside.getDeclaredMethods()) {
                Check.due(inside.getName() + "." + m.getName() + " bears a public name", names.contains(m.getName()), false);
            }
            int fields = 0;
            for (Field f : inside.getDeclaredFields()) {
                fields += Modifier.isStatic(f.getModifiers()) ? 0 : 1;
            }
            Check.due(inside.getName() + " has some twenty fields at most", fields <= 20, true);
        }
        Check.due("some twelve classes at most", c.getDeclaredClasses().length < 12, true);
        Check.end("FaceTest");
    }
}
