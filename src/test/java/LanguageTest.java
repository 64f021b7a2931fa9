import java.io.IOException;
import java.lang.reflect.AnnotatedElement;
import java.lang.reflect.Constructor;
import java.lang.reflect.Field;
import java.lang.reflect.Method;
import java.lang.reflect.Modifier;
import java.nio.file.Files;
import java.nio.file.Path;
import java.util.HashSet;
import java.util.Set;
import java.util.regex.Matcher;
import java.util.regex.Pattern;

/** Those rules of ../shared/LANGUAGE.md that can be read off the source or the compiled classes. */
public final class LanguageTest {
    private static final Path SOURCE = Path.of("src/main/java/MapStore.java");
    private static final String[] NEVER = {"\\bpackage\\b", "\\bimport\\b", "->", "::", "\\btry\\b", "\\bcatch\\b",
        "\\bfinally\\b", "\\bsynchronized\\b", "\\bassert\\b", "\\bvar\\b", "\\bnative\\b", "\\bvolatile\\b",
        "\\bObject\\b", "\\bequals\\b", "\\bhashCode\\b", "\\btoString\\b", "\\w+Exact\\b"};
    private static final Pattern THROW = Pattern.compile("\\bthrow\\b([^;]*);");
    private static final Pattern THROW_AS_SAID = Pattern.compile(
            " new (IllegalStateException|IllegalArgumentException|IndexOutOfBoundsException)\\((\"[^\"]*\")?\\)");
    private static final Pattern LIBRARY = Pattern.compile("\\b(Integer|Long|Math|System|Arrays)\\.(\\w+)");
    private static final Set<String> LIBRARY_AS_SAID = Set.of("Integer.bitCount", "Math.max");

    public static void main(String[] args) throws IOException {
        source(withoutComments(Files.readString(SOURCE)));
        compiled(MapStore.class);
        Check.due("at most twelve classes", MapStore.class.getDeclaredClasses().length < 12 ? 1 : 0, 1);
        for (Class<?> inside : MapStore.class.getDeclaredClasses()) {
            int mods = inside.getModifiers();
            rule(Modifier.isStatic(mods) && !Modifier.isPublic(mods) && !Modifier.isProtected(mods), 1, inside);
            compiled(inside);
        }
        Check.done();
    }

    private static String withoutComments(String text) {
        return text.replaceAll("(?s)/\\*.*?\\*/", "").replaceAll("//[^\n]*", "");
    }

    private static void source(String text) {
        for (String never : NEVER) {
            Matcher m = Pattern.compile(never).matcher(text);
            if (m.find()) {
                Check.fail("the program has: " + m.group());
            }
        }
        Matcher thrown = THROW.matcher(text);
        while (thrown.find()) {
            if (!THROW_AS_SAID.matcher(thrown.group(1)).matches()) {
                Check.fail("rule 6: throw" + thrown.group(1));
            }
        }
        Matcher used = LIBRARY.matcher(text);
        while (used.find()) {
            if (!LIBRARY_AS_SAID.contains(used.group())) {
                Check.fail("rule 4: " + used.group());
            }
        }
    }

    private static void compiled(Class<?> c) {
        Set<String> face = new HashSet<>();
        for (Method m : MapStore.class.getDeclaredMethods()) {
            if (Modifier.isPublic(m.getModifiers())) {
                face.add(m.getName());
            }
        }
        int fields = 0;
        for (Field f : c.getDeclaredFields()) {
            boolean constant = Modifier.isStatic(f.getModifiers());
            rule(!constant || Modifier.isFinal(f.getModifiers()), 5, f);
            fields += constant ? 0 : 1;
        }
        rule(fields <= 20, 11, c);
        for (Method m : c.getDeclaredMethods()) {
            rule(m.getParameterCount() <= 7, 11, m);
            rule(!Modifier.isPrivate(m.getModifiers()) || !face.contains(m.getName()), 1, m);
        }
        for (Constructor<?> made : c.getDeclaredConstructors()) {
            rule(made.getParameterCount() <= 7, 11, made);
        }
    }

    private static void rule(boolean kept, int number, AnnotatedElement where) {
        if (!kept) {
            Check.fail("rule " + number + " is not kept by " + where);
        }
    }
}
