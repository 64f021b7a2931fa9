import java.io.IOException;
import java.lang.reflect.Method;
import java.lang.reflect.Modifier;
import java.nio.file.Files;
import java.nio.file.Path;
import java.util.ArrayList;
import java.util.List;

/** README.md: its example is run here, and every call, constant, answer and exception is named there. */
public final class ReadmeTest {
    private static final Path README = Path.of("README.md");
    private static final Path THIS = Path.of("src/test/java/ReadmeTest.java");
    private static final String[] ANSWERS = {"| 0 |", "| -1, `NONE` |", "| -2 |", "| -7 |", "| -11 |", "| -17 |",
        "| -22 |"};

    public static void main(String[] args) throws IOException {
        example();
        exampleIsTheSame();
        namesAll(Files.readString(README));
        Check.done();
    }

    private static void example() {
        // the example begins
        MapStore store = new MapStore();
        int table = store.make(MapStore.TABLE, 8, 4, 100);     // keys of 8 bytes, values of 4, 100 entries

        store.lay(0, 77L);                                     // the key, on the desk from byte 0 on
        store.lay(8, 5L);                                      // the value, from byte 8 on
        int added = store.update(table, 0, 8, MapStore.NEW);   // 0: it is done
        int again = store.update(table, 0, 8, MapStore.NEW);   // -17: the key is there

        int place = store.find(table, 0);                      // where the value stands in the area
        store.store(place, 4, store.load(place, 4) + 1);       // programs read and write there
        long counted = store.load(place, 4);                   // 6

        int entry = store.next(table, MapStore.NONE, 16);      // 0: the first entry that has a key
        long key = store.desk(16);                             // 77: its key, now on the desk from 16 on
        int end = store.next(table, 16, 16);                   // NONE: no key follows
        int removed = store.remove(table, 0);                  // 0: its entry is free

        int array = store.make(MapStore.ARRAY, 4, 8, 10);      // 10 values of 8 bytes
        store.lay(0, 3L);                                      // an array's key is an entry's number
        int third = store.find(array, 0);                      // begins(array) + 3 * 8

        int ring = store.make(MapStore.RING, 0, 0, 1024);      // 1024 bytes for records
        int put = store.put(ring, 0, 16);                      // 0: 16 bytes of the desk are a record
        int size = store.take(ring, 32);                       // 16; its bytes stand at 32 on the desk
        int none = store.take(ring, 32);                       // -2: the ring has no record now
        // the example ends
        Check.due("added", added, 0);
        Check.due("again", again, -17);
        Check.due("place", place, store.begins(table));
        Check.due("counted", counted, 6);
        Check.due("entry", entry, 0);
        Check.due("key", key, 77);
        Check.due("end", end, MapStore.NONE);
        Check.due("removed", removed, 0);
        Check.due("third", third, store.begins(array) + 3 * 8);
        Check.due("put", put, 0);
        Check.due("size", size, 16);
        Check.due("the record's first bytes", store.desk(32), 3);
        Check.due("none", none, -2);
    }

    /** What is run above must be what README.md shows. */
    private static void exampleIsTheSame() throws IOException {
        List<String> run = between(Files.readAllLines(THIS), "        // the example begins",
                "        // the example ends");
        List<String> shown = between(Files.readAllLines(README), "```java", "```");
        Check.due("lines of the example", shown.size(), run.size());
        for (int i = 0; i < Math.min(shown.size(), run.size()); i++) {
            if (!shown.get(i).equals(run.get(i).strip())) {
                Check.fail("README.md shows: " + shown.get(i) + ", run is: " + run.get(i).strip());
            }
        }
    }

    private static List<String> between(List<String> lines, String first, String last) {
        List<String> found = new ArrayList<>();
        boolean inside = false;
        for (String line : lines) {
            if (inside && line.equals(last)) {
                return found;
            }
            if (inside) {
                found.add(line);
            }
            inside |= line.equals(first);
        }
        Check.fail("no lines between " + first + " and " + last);
        return found;
    }

    private static void namesAll(String text) {
        names(text, "new MapStore()");
        for (Method m : MapStore.class.getDeclaredMethods()) {
            if (Modifier.isPublic(m.getModifiers())) {
                names(text, "\n| `" + m.getName() + "(");
                for (Class<?> thrown : m.getExceptionTypes()) {
                    names(text, "\n| `" + thrown.getSimpleName() + "` |");
                }
            }
        }
        String[] constants = {"ARRAY", "TABLE", "RING", "ANY", "NEW", "THERE"};
        for (int i = 0; i < constants.length; i++) {
            names(text, "`" + constants[i] + "` (" + i % 3 + ")");
        }
        for (String answer : ANSWERS) {
            names(text, "\n" + answer);
        }
        names(text, ".ci/run");
    }

    private static void names(String text, String what) {
        if (!text.contains(what)) {
            Check.fail("README.md does not have: " + what.strip());
        }
    }
}
