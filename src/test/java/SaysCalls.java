import java.util.HashSet;
import java.util.Random;
import java.util.Set;

/** The sentences of promises 10 to 16, the calls on maps. */
final class SaysCalls {
    private static final int[] ANYWHERE = {Integer.MIN_VALUE, -2, -1, 0, 449, 505, 511, 512, 513, 65536,
        Integer.MAX_VALUE};

    private SaysCalls() {
    }

    static void run() {
        Sentence.ofPromise(10, "Looks for the key that stands on the desk from a byte on: where its value stands in"
                + " the area; NONE when there is none; -22 for a ring.");
        finds();
        Sentence.ofPromise(10, "IndexOutOfBoundsException (no such map, or the key goes beyond the desk).");
        findBeyond();
        Sentence.ofPromise(11, "Updates with a key and a value that stand on the desk: 0, or what goes wrong.");
        updates();
        Sentence.ofPromise(11, "IndexOutOfBoundsException (for a ring only when there is no such map).");
        updateBeyond();
        Sentence.ofPromise(12, "Removes a key that stands on the desk: 0, or what goes wrong.");
        removes();
        Sentence.ofPromise(12, "IndexOutOfBoundsException (for an array or a ring only when there is no such map).");
        removeBeyond();
        Sentence.ofPromise(13, "Puts size bytes of the desk into a ring as a record: 0, or what goes wrong.");
        puts();
        Sentence.ofPromise(13, "IndexOutOfBoundsException (the bytes only when the map is a ring and the size 1 .."
                + " 256).");
        putBeyond();
        Sentence.ofPromise(14, "Takes the oldest record of a ring; its bytes are written onto the desk from a byte"
                + " on: how many there are, or what goes wrong.");
        takes();
        Sentence.ofPromise(14, "IndexOutOfBoundsException (they would go beyond the desk: then the record stays).");
        takeBeyond();
        takeOfNoBytes();
        Sentence.ofPromise(15, "The key that follows: of the entry of a table with the least number above that of a"
                + " key on the desk (with NONE as keyAt, or a key that is not there, the least of all) that has a"
                + " key, it is written onto the desk from a byte on: the number of the entry");
        follows();
        leastOfAll();
        ontoItself();
        Sentence.ofPromise(15, "NONE when there is none; -22 for another kind.");
        nothingFollows();
        otherKinds();
        Sentence.ofPromise(15, "IndexOutOfBoundsException (for a table also when nothing would be written there).");
        nextBeyond();
        Sentence.ofPromise(16, "How many times two entries of a table had the same key, or an entry's key was found"
                + " elsewhere than in it, so far. (Never.)");
        neverABreach();
    }

    private static void finds() {
        MapStore x = Stores.table(3, 8, 2);
        x.make(MapStore.ARRAY, 4, 8, 2);
        x.make(MapStore.RING, 0, 0, 64);
        x.lay(200, 0x00030201aaL);
        Check.due("none yet", x.find(0, 201), MapStore.NONE);
        x.update(0, 201, 0, MapStore.NEW);
        Check.due("from byte 201 on", x.find(0, 201), 0);
        Check.due("from byte 200 on", x.find(0, 200), MapStore.NONE);
        x.lay(504, 0x030201L << 40);
        Check.due("from byte 509 on", x.find(0, 509), 0);
        x.lay(504, 1L << 32);
        Check.due("an array's key from byte 508 on", x.find(1, 508), 24);
        Check.due("an array's key from byte 507 on", x.find(1, 507), MapStore.NONE);
        Check.due("a ring", x.find(2, 0), -22);
        x.put(2, 0, 8);
        Check.due("a ring with a record", x.find(2, 0), -22);
        Check.due("a broken ring", Stores.brokenRing().find(0, 0), -22);
    }

    private static void findBeyond() {
        for (int k = 1; k <= 64; k++) {
            MapStore x = Stores.table(k, 8, 2);
            int last = 512 - k;
            Check.due("the last place, k " + k, x.find(0, last), MapStore.NONE);
            Check.throwsDue("one byte beyond, k " + k, Check.BEYOND, () -> x.find(0, last + 1));
            Check.throwsDue("one byte before, k " + k, Check.BEYOND, () -> x.find(0, -1));
        }
        MapStore y = Stores.array(8, 2);
        Check.due("an array, the last place", y.find(0, 508), 0);
        Check.throwsDue("an array, one byte beyond", Check.BEYOND, () -> y.find(0, 509));
        Check.throwsDue("an array, one byte before", Check.BEYOND, () -> y.find(0, -1));
        Check.throwsDue("no such map", Check.BEYOND, () -> y.find(1, 0));
        for (int at : Stores.WILD) {
            Check.throwsDue("find at " + at, Check.BEYOND, () -> y.find(0, at));
        }
    }

    private static void updates() {
        MapStore x = Stores.table(3, 5, 1);
        x.lay(504, 0x0302010000000000L);
        x.lay(300, 0x0908070605040302L);
        Check.due("key at 509, value at 301", x.update(0, 509, 301, MapStore.NEW), 0);
        Check.due("the value", x.load(0, 8), 0x0706050403L);
        Check.due("the place", x.find(0, 509), 0);
        Check.due("key and value in the same bytes", x.update(0, 509, 507, MapStore.THERE), 0);
        Check.due("the value", x.load(0, 8), 0x0302010000L);
        Check.due("NEW", x.update(0, 509, 301, MapStore.NEW), -17);
        Check.due("too much", x.update(0, 301, 301, MapStore.NEW), -7);
        Check.due("not there", x.update(0, 301, 301, MapStore.THERE), -2);
        Check.due("wrong flags", x.update(0, 301, 301, 3), -22);
        MapStore y = Stores.array(256, 2);
        Stores.layRow(y, 256, 1, 256);
        Check.due("256 bytes to the desk's end", y.update(0, 0, 256, MapStore.ANY), 0);
        Check.due("the first byte", y.load(0, 1), 1);
        Check.due("the last byte but one", y.load(254, 1), 255);
        Check.due("behind the value", y.load(256, 8), 0);
    }

    private static void updateBeyond() {
        MapStore x = Stores.table(8, 8, 1);
        x.make(MapStore.ARRAY, 4, 8, 1);
        x.make(MapStore.RING, 0, 0, 64);
        x.update(0, 0, 0, MapStore.NEW);
        int[] flags = {0, 1, 2, 3, -1};
        for (int f : flags) {
            Check.throwsDue("a table's key, flags " + f, Check.BEYOND, () -> x.update(0, 505, 0, f));
            Check.throwsDue("a table's value, flags " + f, Check.BEYOND, () -> x.update(0, 0, 505, f));
            Check.throwsDue("an array's key, flags " + f, Check.BEYOND, () -> x.update(1, 509, 0, f));
            Check.throwsDue("an array's value, flags " + f, Check.BEYOND, () -> x.update(1, 0, 505, f));
            Check.throwsDue("a table, before the desk", Check.BEYOND, () -> x.update(0, -1, 0, f));
            Check.throwsDue("an array, before the desk", Check.BEYOND, () -> x.update(1, 0, -1, f));
            Check.throwsDue("no such map, flags " + f, Check.BEYOND, () -> x.update(3, 0, 0, f));
        }
        for (int at : ANYWHERE) {
            Check.due("a ring, key at " + at, x.update(2, at, 0, MapStore.ANY), -22);
            Check.due("a ring, value at " + at, x.update(2, 0, at, MapStore.ANY), -22);
            Check.due("a ring, both at " + at, x.update(2, at, at, 3), -22);
        }
    }

    private static void removes() {
        MapStore x = Stores.table(3, 8, 2);
        x.make(MapStore.ARRAY, 4, 8, 2);
        x.make(MapStore.RING, 0, 0, 64);
        x.lay(504, 0x0302010000000000L);
        Check.due("not there", x.remove(0, 509), -2);
        x.update(0, 509, 0, MapStore.NEW);
        Check.due("another key", x.remove(0, 508), -2);
        Check.due("the key", x.remove(0, 509), 0);
        Check.due("not there any more", x.remove(0, 509), -2);
        Check.due("an array", x.remove(1, 0), -22);
        Check.due("a ring", x.remove(2, 0), -22);
    }

    private static void removeBeyond() {
        MapStore x = Stores.table(8, 8, 1);
        x.make(MapStore.ARRAY, 4, 8, 1);
        x.make(MapStore.RING, 0, 0, 64);
        Check.due("the last place", x.remove(0, 504), -2);
        Check.throwsDue("one byte beyond", Check.BEYOND, () -> x.remove(0, 505));
        Check.throwsDue("one byte before", Check.BEYOND, () -> x.remove(0, -1));
        for (int at : Stores.WILD) {
            Check.throwsDue("remove at " + at, Check.BEYOND, () -> x.remove(0, at));
        }
        for (int at : ANYWHERE) {
            Check.due("an array, key at " + at, x.remove(1, at), -22);
            Check.due("a ring, key at " + at, x.remove(2, at), -22);
            Check.throwsDue("no such map", Check.BEYOND, () -> x.remove(3, at));
        }
    }

    private static void puts() {
        MapStore x = Stores.ring(512);
        Stores.layRow(x, 256, 1, 256);
        Check.due("256 bytes to the desk's end", x.put(0, 256, 256), 0);
        Check.due("the first", x.load(8, 1), 1);
        Check.due("the last but one", x.load(262, 1), 255);
        Check.due("the desk's last byte alone", x.put(0, 510, 1), 0);
        Check.due("it", x.load(272, 8), 255);
        Check.due("too many", x.put(0, 0, 256), -11);
        Check.due("no bytes", x.put(0, 0, 0), -22);
        Check.due("257 bytes", x.put(0, 0, 257), -22);
        Check.due("a table", Stores.table(1, 1, 1).put(0, 0, 1), -22);
        Check.due("an array", Stores.array(1, 1).put(0, 0, 1), -22);
        Check.due("a broken ring", Stores.brokenRing().put(0, 0, 1), -22);
    }

    private static void putBeyond() {
        MapStore x = Stores.table(8, 8, 1);
        x.make(MapStore.ARRAY, 4, 8, 1);
        x.make(MapStore.RING, 0, 0, 1024);
        int[] wrong = {Integer.MIN_VALUE, -1, 0, 257, Integer.MAX_VALUE};
        for (int at : ANYWHERE) {
            Check.due("a table, at " + at, x.put(0, at, 256), -22);
            Check.due("an array, at " + at, x.put(1, at, 256), -22);
            for (int size : wrong) {
                Check.due("a ring, at " + at + ", size " + size, x.put(2, at, size), -22);
            }
            Check.throwsDue("no such map", Check.BEYOND, () -> x.put(3, at, 1));
            Check.throwsDue("no such map, and a wrong size", Check.BEYOND, () -> x.put(3, at, 0));
        }
        int[] sizes = {1, 2, 255, 256};
        for (int size : sizes) {
            Check.throwsDue("one byte beyond, size " + size, Check.BEYOND, () -> x.put(2, 513 - size, size));
            Check.throwsDue("one byte before, size " + size, Check.BEYOND, () -> x.put(2, -1, size));
            Check.due("the last place, size " + size, x.put(2, 512 - size, size), 0);
        }
        for (int at : Stores.WILD) {
            Check.throwsDue("put at " + at, Check.BEYOND, () -> x.put(2, at, 1));
        }
        Check.throwsDue("a ring without room", Check.BEYOND, () -> Stores.ring(64).put(0, 257, 256));
        Check.throwsDue("a broken ring", Check.BEYOND, () -> Stores.brokenRing().put(0, 512, 1));
    }

    private static void takes() {
        MapStore x = Stores.ring(1024);
        Stores.layRow(x, 0, 1, 256);
        x.put(0, 0, 1);
        x.put(0, 0, 256);
        Check.due("the oldest", x.take(0, 511), 1);
        Check.due("its byte", Stores.deskByte(x, 511), 1);
        Check.due("the second", x.take(0, 256), 256);
        Check.due("its first byte", Stores.deskByte(x, 256), 1);
        Check.due("its last byte but one", Stores.deskByte(x, 510), 255);
        Check.due("none", x.take(0, 0), -2);
        Check.due("a table", Stores.table(1, 1, 1).take(0, 0), -22);
        Check.due("an array", Stores.array(1, 1).take(0, 0), -22);
        Check.due("a broken ring", Stores.brokenRing().take(0, 0), -22);
    }

    private static void takeBeyond() {
        int[] sizes = {1, 5, 8, 56};
        for (int size : sizes) {
            MapStore x = Stores.ring(64);
            Stores.layRow(x, 0, 1, 56);
            x.put(0, 0, size);
            int used = x.used(0);
            x.lay(504, -1L);
            Check.throwsDue("one byte beyond, size " + size, Check.BEYOND, () -> x.take(0, 513 - size));
            Check.throwsDue("one byte before, size " + size, Check.BEYOND, () -> x.take(0, -1));
            for (int at : Stores.WILD) {
                Check.throwsDue("take at " + at, Check.BEYOND, () -> x.take(0, at));
            }
            Check.due("the record stays, size " + size, x.used(0), used);
            Check.due("the desk stays, size " + size, x.desk(504), -1L);
            Check.due("the last place, size " + size, x.take(0, 512 - size), size);
            Check.due("its last byte, size " + size, Stores.deskByte(x, 511), size);
            Check.throwsDue("no such map", Check.BEYOND, () -> x.take(1, 0));
        }
    }

    private static void takeOfNoBytes() {
        MapStore x = Stores.ring(64);
        MapStore y = Stores.brokenRing();
        MapStore z = Stores.table(8, 8, 1);
        z.make(MapStore.ARRAY, 4, 8, 1);
        for (int at : ANYWHERE) {
            Check.due("an empty ring, at " + at, x.take(0, at), -2);
            Check.due("a broken ring, at " + at, y.take(0, at), -22);
            Check.due("a table, at " + at, z.take(0, at), -22);
            Check.due("an array, at " + at, z.take(1, at), -22);
            MapStore w = Stores.ring(64);
            w.put(0, 0, 8);
            w.store(0, 4, 0L);
            Check.due("a ring that breaks now, at " + at, w.take(0, at), -22);
        }
    }

    /** Entries 0 .. 5 get keys 60, 50, .. 10, and entries 0, 2, 3 become free again. */
    private static MapStore withGaps() {
        MapStore x = Stores.table(8, 8, 7);
        for (int e = 0; e < 6; e++) {
            Stores.update(x, 0, 60 - 10 * e, e, MapStore.NEW);
        }
        Stores.remove(x, 0, 60);
        Stores.remove(x, 0, 40);
        Stores.remove(x, 0, 30);
        return x;
    }

    private static void follows() {
        MapStore x = withGaps();
        x.lay(0, 50L);
        x.lay(96, -1L);
        x.lay(104, -1L);
        x.lay(112, -1L);
        Check.due("above entry 1", x.next(0, 0, 104), 4);
        Check.due("its key", x.desk(104), 20);
        Check.due("the bytes before stay", x.desk(96), -1L);
        Check.due("the bytes behind stay", x.desk(112), -1L);
        Check.due("above entry 4", x.next(0, 104, 504), 5);
        Check.due("its key", x.desk(504), 10);
        Stores.update(x, 0, 70, 0, MapStore.NEW);
        x.lay(0, 70L);
        Check.due("above entry 0", x.next(0, 0, 104), 1);
        Check.due("its key", x.desk(104), 50);
        MapStore y = Stores.table(3, 1, 2);
        y.lay(0, 0x030201L);
        y.update(0, 0, 0, MapStore.NEW);
        y.lay(100, -1L);
        Check.due("a key of three bytes", y.next(0, MapStore.NONE, 102), 0);
        Check.due("its three bytes alone", y.desk(100), 0xffffff030201ffffL);
    }

    private static void leastOfAll() {
        MapStore x = withGaps();
        Check.due("with NONE", x.next(0, MapStore.NONE, 104), 1);
        Check.due("its key", x.desk(104), 50);
        long[] missing = {60, 40, 30, 0, 77, -1};
        for (long key : missing) {
            x.lay(0, key);
            x.lay(104, 0L);
            Check.due("of " + key + ", which is not there", x.next(0, 0, 104), 1);
            Check.due("the key that follows " + key, x.desk(104), 50);
        }
        Stores.update(x, 0, 80, 0, MapStore.NEW);
        Check.due("with NONE, entry 0 has a key again", x.next(0, MapStore.NONE, 104), 0);
        Check.due("its key", x.desk(104), 80);
    }

    private static void ontoItself() {
        MapStore x = withGaps();
        x.lay(100, 50L);
        Check.due("onto the key itself", x.next(0, 100, 100), 4);
        Check.due("its key", x.desk(100), 20);
        Check.due("partly onto the key", x.next(0, 100, 104), 5);
        Check.due("its key", x.desk(104), 10);
        Check.due("the rest of the old key", x.desk(96), 20L << 32);
    }

    private static void nothingFollows() {
        MapStore x = Stores.table(8, 8, 2);
        x.lay(100, 5L);
        Check.due("an empty table, with NONE", x.next(0, MapStore.NONE, 100), MapStore.NONE);
        Check.due("an empty table, with a key", x.next(0, 0, 100), MapStore.NONE);
        Stores.update(x, 0, 1, 1, MapStore.NEW);
        Check.due("above the only key", x.next(0, 0, 100), MapStore.NONE);
        Stores.update(x, 0, 2, 1, MapStore.NEW);
        Check.due("above the last entry", x.next(0, 0, 100), MapStore.NONE);
        Check.due("nothing is written", x.desk(100), 5);
        Stores.remove(x, 0, 2);
        x.lay(0, 1L);
        Check.due("above the only key left", x.next(0, 0, 100), MapStore.NONE);
        Stores.remove(x, 0, 1);
        Check.due("a table that is empty again", x.next(0, MapStore.NONE, 100), MapStore.NONE);
        Check.due("nothing is written", x.desk(100), 5);
    }

    private static void otherKinds() {
        MapStore x = Stores.array(8, 2);
        x.make(MapStore.RING, 0, 0, 64);
        for (int map = 0; map < 2; map++) {
            for (int at : ANYWHERE) {
                Check.due("map " + map + ", of " + at, x.next(map, at, 0), -22);
                Check.due("map " + map + ", to " + at, x.next(map, 0, at), -22);
            }
        }
    }

    private static void nextBeyond() {
        MapStore x = Stores.table(8, 8, 2);
        beyondInNext(x);
        Stores.update(x, 0, 1, 1, MapStore.NEW);
        x.lay(0, 1L);
        x.lay(504, 1L);
        Check.due("nothing above it", x.next(0, 0, 504), MapStore.NONE);
        beyondInNext(x);
        x.lay(0, 9L);
        beyondInNext(x);
        Check.due("key and place at the desk's end", x.next(0, 504, 504), MapStore.NONE);
        Check.throwsDue("no such map", Check.BEYOND, () -> x.next(1, MapStore.NONE, 0));
    }

    private static void beyondInNext(MapStore x) {
        int[] beyond = {Integer.MIN_VALUE, -8, -2, 505, 512, Integer.MAX_VALUE};
        for (int at : beyond) {
            Check.throwsDue("of " + at, Check.BEYOND, () -> x.next(0, at, 0));
            Check.throwsDue("to " + at, Check.BEYOND, () -> x.next(0, 0, at));
            Check.throwsDue("of NONE, to " + at, Check.BEYOND, () -> x.next(0, MapStore.NONE, at));
        }
        Check.throwsDue("to -1", Check.BEYOND, () -> x.next(0, 0, -1));
        Check.throwsDue("of NONE, to -1", Check.BEYOND, () -> x.next(0, MapStore.NONE, -1));
    }

    private static void neverABreach() {
        Check.due("a new object", new MapStore().breaches(), 0);
        for (int seed = 0; seed < 20; seed++) {
            Random random = new Random(seed);
            MapStore x = Stores.table(2, 8, 6);
            x.make(MapStore.TABLE, 2, 8, 6);
            for (int i = 0; i < 90; i++) {
                int map = random.nextInt(2);
                x.lay(0, random.nextInt(9));
                if (random.nextInt(3) == 0) {
                    x.remove(map, 0);
                } else {
                    x.update(map, 0, 8, random.nextInt(3));
                }
                x.store(8 * random.nextInt(12), 8, random.nextLong());
                Check.due("breaches()", x.breaches(), 0);
            }
            eachKeyOnceAndFoundInItsEntry(x, 0);
            eachKeyOnceAndFoundInItsEntry(x, 1);
            Check.due("breaches() behind looking", x.breaches(), 0);
        }
    }

    private static void eachKeyOnceAndFoundInItsEntry(MapStore x, int map) {
        Set<Long> keys = new HashSet<>();
        int e = x.next(map, MapStore.NONE, 100);
        for (int i = 0; i < 7 && e != MapStore.NONE; i++) {
            Check.due("a key twice", keys.add(x.desk(100) & 0xffff) ? 0 : 1, 0);
            Check.due("where it is found", x.find(map, 100), x.begins(map) + 8 * e);
            e = x.next(map, 100, 100);
        }
        Check.due("used", x.used(map), keys.size());
    }
}
