import java.io.IOException;
import java.lang.reflect.Constructor;
import java.lang.reflect.Field;
import java.lang.reflect.Method;
import java.lang.reflect.Modifier;
import java.nio.file.Files;
import java.nio.file.Path;
import java.util.Arrays;
import java.util.Set;
import java.util.TreeSet;
import java.util.regex.Matcher;
import java.util.regex.Pattern;

/** The public face: its constants, constructor and methods, and no other member that can be seen. */
public final class FaceTest {
    private static final Path DOCUMENT = Path.of("../shared/DOC.md");
    private static final Pattern METHOD = Pattern.compile("public (\\w+ \\w+)\\(([^)]*)\\)(?: throws ([^;]*))?;");
    private static final Pattern CONSTANTS = Pattern.compile("public static final int ([^;]*);");
    private static final String[] METHODS = {
        "int make(int,int,int,int) IllegalArgumentException,IllegalStateException",
        "int maps()",
        "int begins(int) IndexOutOfBoundsException",
        "int used(int) IndexOutOfBoundsException",
        "long desk(int) IndexOutOfBoundsException",
        "void lay(int,long) IndexOutOfBoundsException",
        "long load(int,int) IndexOutOfBoundsException,IllegalArgumentException",
        "void store(int,int,long) IndexOutOfBoundsException,IllegalArgumentException",
        "int find(int,int) IndexOutOfBoundsException",
        "int update(int,int,int,int) IndexOutOfBoundsException",
        "int remove(int,int) IndexOutOfBoundsException",
        "int put(int,int,int) IndexOutOfBoundsException",
        "int take(int,int) IndexOutOfBoundsException",
        "int next(int,int,int) IndexOutOfBoundsException",
        "int breaches()",
    };

    public static void main(String[] args) throws IOException, ReflectiveOperationException {
        constants();
        methods();
        members();
        if (Files.isReadable(DOCUMENT)) {
            asInTheDocument(Files.readString(DOCUMENT));
        } else {
            System.out.println(DOCUMENT + " is not there: the face was not compared with it");
        }
        Check.done();
    }

    private static void constants() {
        Check.due("NONE", MapStore.NONE, -1);
        Check.due("ARRAY", MapStore.ARRAY, 0);
        Check.due("TABLE", MapStore.TABLE, 1);
        Check.due("RING", MapStore.RING, 2);
        Check.due("ANY", MapStore.ANY, 0);
        Check.due("NEW", MapStore.NEW, 1);
        Check.due("THERE", MapStore.THERE, 2);
    }

    private static void methods() {
        Set<String> found = new TreeSet<>();
        for (Method m : MapStore.class.getDeclaredMethods()) {
            if (!Modifier.isPrivate(m.getModifiers())) {
                found.add(textOf(m));
            }
        }
        Set<String> want = new TreeSet<>(Arrays.asList(METHODS));
        if (!found.equals(want)) {
            Check.fail("the methods are " + found + ", due is " + want);
        }
    }

    private static String textOf(Method m) {
        String text = m.getReturnType() + " " + m.getName() + "(" + names(m.getParameterTypes()) + ")";
        String thrown = names(m.getExceptionTypes());
        return thrown.isEmpty() ? text : text + " " + thrown;
    }

    private static String names(Class<?>[] types) {
        StringBuilder text = new StringBuilder();
        for (Class<?> type : types) {
            text.append(text.length() == 0 ? "" : ",").append(type.getSimpleName());
        }
        return text.toString();
    }

    /** The lists above are those of the document's section. */
    private static void asInTheDocument(String document) throws ReflectiveOperationException {
        String section = document.split("## The public face", 2)[1].split("\n## ", 2)[0];
        Set<String> said = new TreeSet<>();
        Matcher method = METHOD.matcher(section);
        while (method.find()) {
            String types = method.group(2).replaceAll(" \\w+(,|$)", "$1").replace(", ", ",");
            String thrown = method.group(3) == null ? "" : " " + method.group(3).replace(", ", ",");
            said.add(method.group(1) + "(" + types + ")" + thrown);
        }
        if (!said.equals(new TreeSet<>(Arrays.asList(METHODS)))) {
            Check.fail("the document's methods are " + said);
        }
        int seen = 0;
        Matcher constants = CONSTANTS.matcher(section);
        while (constants.find()) {
            for (String constant : constants.group(1).split(", ")) {
                String[] sides = constant.split(" = ");
                Check.due(constant, MapStore.class.getField(sides[0]).getInt(null), Integer.parseInt(sides[1]));
                seen++;
            }
        }
        Check.due("the document's constants", seen, 7);
    }

    private static void members() {
        int mods = MapStore.class.getModifiers();
        Check.due("MapStore is public and final", Modifier.isPublic(mods) && Modifier.isFinal(mods) ? 1 : 0, 1);
        Check.due("constructors", MapStore.class.getDeclaredConstructors().length, 1);
        for (Constructor<?> c : MapStore.class.getDeclaredConstructors()) {
            Check.due("the constructor is public", Modifier.isPublic(c.getModifiers()) ? 1 : 0, 1);
            Check.due("the constructor's parameters", c.getParameterCount(), 0);
        }
        int seen = 0;
        for (Field f : MapStore.class.getDeclaredFields()) {
            seen += Modifier.isPrivate(f.getModifiers()) ? 0 : 1;
        }
        Check.due("fields that can be seen", seen, 7);
    }
}
