import java.util.HashSet;
import java.util.Random;
import java.util.Set;

/** Promise 16: no two entries of a table ever have the same key, and each is found where it is. */
public final class BreachesTest {
    private static final int ENTRIES = 12;

    public static void main(String[] args) {
        MapStore empty = new MapStore();
        Check.due("breaches of a new object", empty.breaches(), 0);
        for (int seed = 0; seed < 40; seed++) {
            mixed(new Random(seed));
        }
        Check.done();
    }

    private static void mixed(Random random) {
        MapStore x = new MapStore();
        x.make(MapStore.RING, 0, 0, 64);
        x.make(MapStore.TABLE, 8, 8, ENTRIES);
        x.make(MapStore.ARRAY, 4, 8, 4);
        for (int i = 0; i < 60; i++) {
            x.lay(0, random.nextInt(20));
            if (random.nextInt(3) == 0) {
                x.remove(1, 0);
            } else {
                x.update(1, 0, 8, random.nextInt(3));
            }
            Check.due("breaches()", x.breaches(), 0);
        }
        walk(x);
        Check.due("breaches()", x.breaches(), 0);
    }

    private static void walk(MapStore x) {
        Set<Long> keys = new HashSet<>();
        int entry = x.next(1, MapStore.NONE, 16);
        for (int i = 0; i <= ENTRIES && entry != MapStore.NONE; i++) {
            Check.due("keys twice", keys.add(x.desk(16)) ? 0 : 1, 0);
            Check.due("the key's own entry", x.find(1, 16), x.begins(1) + 8 * entry);
            entry = x.next(1, 16, 16);
        }
        Check.due("used", x.used(1), keys.size());
    }
}
