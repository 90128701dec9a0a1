import java.lang.reflect.Constructor;
import java.lang.reflect.Field;
import java.lang.reflect.Method;
import java.lang.reflect.Modifier;
import java.util.ArrayList;
import java.util.List;
import java.util.TreeSet;

/** The public face is the document's, with its throws clauses, and nothing else can be seen. */
public final class FaceTest {
    private static final String STATE_INDEX = " throws IllegalStateException, IndexOutOfBoundsException";
    private static final String STATE = " throws IllegalStateException";
    private static final String INDEX = " throws IndexOutOfBoundsException";
    private static final String[] FACE = {
        "int fix(int)" + STATE_INDEX,
        "int unfix(int)" + STATE_INDEX,
        "int change(int, int, int)" + STATE_INDEX,
        "int word(int, int)" + STATE_INDEX,
        "int frame(int, int)" + INDEX,
        "int flush(int)" + STATE_INDEX,
        "int flushOldest()" + STATE,
        "int force()" + STATE,
        "int trim()" + STATE,
        "int changed()",
        "int oldest(int)",
        "int log(int)" + INDEX,
        "int onMedium(int, int)" + INDEX,
        "int torn()",
        "int writes()",
        "void cutAfter(int) throws IllegalArgumentException",
        "boolean cut()",
        "int start()" + STATE,
        "boolean isOn()",
    };

    private static String joined(Class<?>[] types) {
        List<String> names = new ArrayList<>();
        for (Class<?> type : types) {
            names.add(type.getSimpleName());
        }
        return String.join(", ", names);
    }

    private static String told(Method m) {
        String clause = m.getExceptionTypes().length == 0 ? "" : " throws " + joined(m.getExceptionTypes());
        return m.getReturnType().getSimpleName() + " " + m.getName() + "(" + joined(m.getParameterTypes()) + ")" + clause;
    }

    private static int wrong = 0;

    private static void due(String what, Object got, Object want) {
        if (!got.equals(want)) {
            wrong++;
            System.out.println(what + ": " + got + ", due is " + want);
        }
    }

    public static void main(String[] args) throws NoSuchFieldException, IllegalAccessException {
        due("class", Modifier.toString(PagePool.class.getModifiers()), "public final");
        TreeSet<String> seen = new TreeSet<>();
        TreeSet<String> hidden = new TreeSet<>();
        TreeSet<String> names = new TreeSet<>();
        for (Method m : PagePool.class.getDeclaredMethods()) {
            if (Modifier.isPrivate(m.getModifiers())) {
                hidden.add(m.getName());
            } else {
                seen.add(told(m));
                names.add(m.getName());
            }
        }
        due("methods", seen, new TreeSet<>(List.of(FACE)));
        hidden.retainAll(names);
        due("private methods with a public one's name", hidden, new TreeSet<String>());
        TreeSet<String> fields = new TreeSet<>();
        for (Field f : PagePool.class.getDeclaredFields()) {
            if (!Modifier.isPrivate(f.getModifiers())) {
                fields.add(Modifier.toString(f.getModifiers()) + " " + f.getName());
            }
        }
        due("fields", fields, new TreeSet<>(List.of("public static final NONE")));
        due("NONE", PagePool.class.getField("NONE").getInt(null), -1);
        Constructor<?>[] made = PagePool.class.getDeclaredConstructors();
        due("constructors", made.length, 1);
        due("constructor", made[0].toString(), "public PagePool()");
        if (wrong != 0) {
            System.exit(1);
        }
        System.out.println("the face is the document's");
    }
}
