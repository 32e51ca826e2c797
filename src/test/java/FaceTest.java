import java.lang.reflect.Constructor;
import java.lang.reflect.Field;
import java.lang.reflect.Method;
import java.lang.reflect.Modifier;
import java.util.Set;
import java.util.TreeSet;

/** The class shows the document's face, with its throws clauses, and no other member. */
public final class FaceTest {
    private static final String MISSING = " throws java.util.NoSuchElementException";
    private static final String ARGUMENT = " throws java.lang.IllegalArgumentException";

    private static Set<String> due() {
        return new TreeSet<>(Set.of(
            "public static final int WillKeeper.NONE = -1",
            "public static final int WillKeeper.PLAIN = 0",
            "public static final int WillKeeper.WEAK = 1",
            "public static final int WillKeeper.FINAL = 2",
            "public WillKeeper()",
            "public int WillKeeper.make(int,int)" + ARGUMENT + ",java.lang.IllegalStateException",
            "public int WillKeeper.set(int,int,int)" + MISSING,
            "public int WillKeeper.get(int,int)" + MISSING,
            "public int WillKeeper.root(int,int)" + MISSING,
            "public int WillKeeper.clear()",
            "public int WillKeeper.take()",
            "public int WillKeeper.queued(int)" + ARGUMENT,
            "public int WillKeeper.sweep()",
            "public int WillKeeper.identity(int)" + MISSING,
            "public int WillKeeper.about(int,int)" + MISSING + ",java.lang.IllegalArgumentException",
            "public int WillKeeper.count(int)" + ARGUMENT));
    }

    private static Set<String> found() throws IllegalAccessException {
        Set<String> found = new TreeSet<>();
        for (Field field : WillKeeper.class.getDeclaredFields()) {
            if (!Modifier.isPrivate(field.getModifiers())) {
                found.add(field + " = " + field.get(null));
            }
        }
        for (Constructor<?> constructor : WillKeeper.class.getDeclaredConstructors()) {
            if (!Modifier.isPrivate(constructor.getModifiers())) {
                found.add(constructor.toString());
            }
        }
        for (Method method : WillKeeper.class.getDeclaredMethods()) {
            if (!Modifier.isPrivate(method.getModifiers())) {
                found.add(method.toString());
            }
        }
        return found;
    }

    public static void main(String[] args) throws IllegalAccessException {
        int kind = WillKeeper.class.getModifiers();
        boolean right = Modifier.isPublic(kind) && Modifier.isFinal(kind) && found().equals(due());
        if (!right) {
            System.out.println("the face is " + found() + ", due is " + due());
            System.exit(1);
        }
        System.out.println("the face is as due");
    }
}
