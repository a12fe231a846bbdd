import java.lang.reflect.Constructor;
import java.lang.reflect.Field;
import java.lang.reflect.Member;
import java.lang.reflect.Method;
import java.lang.reflect.Modifier;
import java.util.ArrayList;
import java.util.Arrays;
import java.util.List;
import java.util.TreeSet;

/** The public face: just the document's members, and nothing else that can be seen from outside. */
public final class FaceTest {
    private static final String[] METHODS = {
        "boolean clock(int, int, int)", "boolean delay(int, int)", "boolean power(int, boolean)",
        "boolean begin(int)", "long read(int, int)", "boolean write(int, int, int)",
        "boolean commit(int)", "boolean abort(int)", "long readAt(int, int)", "int step(int)",
        "int now()", "int state(int)", "int stamp(int)", "int end(int)", "int marks(int)",
        "int safe(int)", "int bound(int)", "int holders(int)", "int version(int, int)",
        "int messages()"};

    private FaceTest() {}

    public static void main(String[] args) {
        Due due = new Due();
        due.promise("the public face");
        Class<?> c = WaitedCommits.class;
        due.yes("public final class", Modifier.isPublic(c.getModifiers()) && Modifier.isFinal(c.getModifiers()));
        due.is("NONE", WaitedCommits.NONE, -1);
        due.is("REFUSED", WaitedCommits.REFUSED, 1099511627776L);
        due.is("LOST", WaitedCommits.LOST, 2199023255552L);
        TreeSet<String> seen = new TreeSet<>();
        TreeSet<String> hidden = new TreeSet<>();
        for (Method m : c.getDeclaredMethods()) {
            if (Modifier.isPrivate(m.getModifiers())) {
                hidden.add(m.getName());
            } else {
                seen.add(m.getReturnType() + " " + m.getName() + types(m.getParameterTypes()));
            }
        }
        TreeSet<String> wanted = new TreeSet<>(Arrays.asList(METHODS));
        due.yes("methods " + seen, seen.equals(wanted));
        for (String method : METHODS) {
            String name = method.substring(method.indexOf(' ') + 1, method.indexOf('('));
            due.no("a private method " + name, hidden.contains(name));
        }
        for (Constructor<?> made : c.getDeclaredConstructors()) {
            due.yes("constructor " + made, types(made.getParameterTypes()).equals("(int)"));
            due.yes("public " + made, Modifier.isPublic(made.getModifiers()));
        }
        fields(due, c);
        for (Class<?> inside : c.getDeclaredClasses()) {
            due.yes("static " + inside, Modifier.isStatic(inside.getModifiers()));
            due.no("public " + inside, Modifier.isPublic(inside.getModifiers()));
            due.no("protected " + inside, Modifier.isProtected(inside.getModifiers()));
        }
        due.close();
    }

    private static void fields(Due due, Class<?> c) {
        List<String> open = new ArrayList<>();
        for (Field f : c.getDeclaredFields()) {
            if (!Modifier.isPrivate(((Member) f).getModifiers())) {
                open.add(Modifier.toString(f.getModifiers()) + " " + f.getType() + " " + f.getName());
            }
            if (Modifier.isStatic(f.getModifiers())) {
                due.yes("final " + f.getName(), Modifier.isFinal(f.getModifiers()));
            }
        }
        List<String> wanted = List.of("public static final int NONE",
            "public static final long REFUSED", "public static final long LOST");
        due.yes("fields " + open, open.size() == wanted.size() && open.containsAll(wanted));
    }

    private static String types(Class<?>[] parameters) {
        List<String> names = new ArrayList<>();
        for (Class<?> p : parameters) {
            names.add(p.getName());
        }
        return "(" + String.join(", ", names) + ")";
    }
}
