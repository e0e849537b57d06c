import java.lang.reflect.Constructor;
import java.lang.reflect.Field;
import java.lang.reflect.Method;
import java.lang.reflect.Modifier;
import java.util.Set;
import java.util.TreeSet;

/** The public face of the class: what the document gives, and nothing beside it. */
public final class FaceTest {
    private static final String A = "java.lang.IllegalArgumentException";
    private static final String S = "java.lang.IllegalStateException";
    private static final String U = "java.lang.UnsupportedOperationException";
    private static final String N = "java.util.NoSuchElementException";
    private static final String B = "java.lang.IndexOutOfBoundsException";

    public static void main(String[] args) {
        Class<?> face = ListForge.class;
        Checks.same("public", Modifier.isPublic(face.getModifiers()), true);
        Checks.same("final", Modifier.isFinal(face.getModifiers()), true);
        Checks.same("constructors", constructorsOf(face), "public ListForge()");
        Checks.same("methods", methodsOf(face), methodsDue());
        fieldsAreHidden(face);
        privateMethodsHaveNamesOfTheirOwn(face);
        Checks.finish();
    }

    private static String constructorsOf(Class<?> face) {
        StringBuilder all = new StringBuilder();
        for (Constructor<?> c : face.getDeclaredConstructors()) {
            all.append(c);
        }
        return all.toString();
    }

    private static String methodsOf(Class<?> face) {
        Set<String> all = new TreeSet<>();
        for (Method m : face.getDeclaredMethods()) {
            if (!Modifier.isPrivate(m.getModifiers()) && !m.isSynthetic()) {
                all.add(m.toString());
            }
        }
        return String.join("\n", all);
    }

    private static String methodsDue() {
        Set<String> all = new TreeSet<>();
        all.add(method("int ask(int,int,int)", A, S, U));
        all.add(method("int confirm(int)", N));
        all.add(method("int leave(int,int)", A, N));
        all.add(method("int way(int,int,int)", A, N));
        all.add(method("boolean moderator(int,int,boolean)", A, N, S));
        all.add(method("boolean ban(int,int,boolean)", A));
        all.add(method("double setting(int,int,double)", A));
        all.add(method("int post(int,int,int,int)", A, S, U));
        all.add(method("int judge(int,int,int)", A, N, U));
        all.add(method("double bounce(int,int,boolean)", A, N, S));
        all.add(method("int renew(int,int)", A, N, S));
        all.add(method("int tick(int)", A));
        all.add(method("int told(int,int,int)", A, N));
        all.add(method("double score(int,int)", A, N));
        all.add(method("int sent(int,int)", A, B));
        all.add(method("int count(int)", A));
        return String.join("\n", all);
    }

    private static String method(String typed, String... thrown) {
        int space = typed.indexOf(' ');
        return "public " + typed.substring(0, space) + " ListForge." + typed.substring(space + 1)
                + " throws " + String.join(",", thrown);
    }

    private static void fieldsAreHidden(Class<?> face) {
        for (Field f : face.getDeclaredFields()) {
            Checks.same("private: " + f, Modifier.isPrivate(f.getModifiers()), true);
            if (Modifier.isStatic(f.getModifiers())) {
                Checks.same("final: " + f, Modifier.isFinal(f.getModifiers()), true);
            }
        }
    }

    private static void privateMethodsHaveNamesOfTheirOwn(Class<?> face) {
        for (Method hidden : face.getDeclaredMethods()) {
            for (Method shown : face.getDeclaredMethods()) {
                boolean both = Modifier.isPrivate(hidden.getModifiers())
                        && Modifier.isPublic(shown.getModifiers());
                if (both) {
                    Checks.same(hidden + " bears a public name",
                            hidden.getName().equals(shown.getName()), false);
                }
            }
        }
    }
}
