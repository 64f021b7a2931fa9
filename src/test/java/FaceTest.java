import java.lang.reflect.Constructor;
import java.lang.reflect.Field;
import java.lang.reflect.Method;
import java.lang.reflect.Modifier;
import java.util.Arrays;
import java.util.Set;
import java.util.TreeSet;

/** The public face: its constants, constructor and methods, and no other member that can be seen. */
public final class FaceTest {
    private static final String[] METHODS = {
        "int make(int,int,int,int) IllegalArgumentException,IllegalStateException",
        "int maps()",
        "int begins(int) IndexOutOfBoundsException",
        "int used(int) IndexOutOfBoundsException",
        "long desk(int) IndexOutOfBoundsException",
        "void lay(int,long) IndexOutOfBoundsException",
        "long load(int,int) IndexOutOfBoundsException,IllegalArgumentException",
        "void store(int,int,long) IndexOutOfBoundsException,IllegalArgumentException",
        "int find(int,int) IndexOutOfBoundsException",
        "int update(int,int,int,int) IndexOutOfBoundsException",
        "int remove(int,int) IndexOutOfBoundsException",
        "int put(int,int,int) IndexOutOfBoundsException",
        "int take(int,int) IndexOutOfBoundsException",
        "int next(int,int,int) IndexOutOfBoundsException",
        "int breaches()",
    };

    public static void main(String[] args) {
        constants();
        methods();
        members();
        Check.done();
    }

    private static void constants() {
        Check.due("NONE", MapStore.NONE, -1);
        Check.due("ARRAY", MapStore.ARRAY, 0);
        Check.due("TABLE", MapStore.TABLE, 1);
        Check.due("RING", MapStore.RING, 2);
        Check.due("ANY", MapStore.ANY, 0);
        Check.due("NEW", MapStore.NEW, 1);
        Check.due("THERE", MapStore.THERE, 2);
    }

    private static void methods() {
        Set<String> found = new TreeSet<>();
        for (Method m : MapStore.class.getDeclaredMethods()) {
            if (!Modifier.isPrivate(m.getModifiers())) {
                found.add(textOf(m));
            }
        }
        Set<String> want = new TreeSet<>(Arrays.asList(METHODS));
        if (!found.equals(want)) {
            Check.fail("the methods are " + found + ", due is " + want);
        }
    }

    private static String textOf(Method m) {
        String text = m.getReturnType() + " " + m.getName() + "(" + names(m.getParameterTypes()) + ")";
        String thrown = names(m.getExceptionTypes());
        return thrown.isEmpty() ? text : text + " " + thrown;
    }

    private static String names(Class<?>[] types) {
        StringBuilder text = new StringBuilder();
        for (Class<?> type : types) {
            text.append(text.length() == 0 ? "" : ",").append(type.getSimpleName());
        }
        return text.toString();
    }

    private static void members() {
        int mods = MapStore.class.getModifiers();
        Check.due("MapStore is public and final", Modifier.isPublic(mods) && Modifier.isFinal(mods) ? 1 : 0, 1);
        Check.due("constructors", MapStore.class.getDeclaredConstructors().length, 1);
        for (Constructor<?> c : MapStore.class.getDeclaredConstructors()) {
            Check.due("the constructor is public", Modifier.isPublic(c.getModifiers()) ? 1 : 0, 1);
            Check.due("the constructor's parameters", c.getParameterCount(), 0);
        }
        int seen = 0;
        for (Field f : MapStore.class.getDeclaredFields()) {
            seen += Modifier.isPrivate(f.getModifiers()) ? 0 : 1;
        }
        Check.due("fields that can be seen", seen, 7);
    }
}
