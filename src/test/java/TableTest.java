/** Promises 10, 11, 12, 15 and 5 for tables; 13 and 14 are not for them. */
public final class TableTest {
    public static void main(String[] args) {
        findsAndUpdates();
        leastFreeEntry();
        flagsAndFullness();
        removedBytesStay();
        wholeKeysCount();
        keysAreKept();
        followingKeys();
        followingOverItself();
        beyondTheDesk();
        notForTables();
        manyKeys();
        Check.done();
    }

    private static MapStore withTable(int key, int value, int entries) {
        MapStore x = new MapStore();
        x.make(MapStore.ARRAY, 4, 8, 1);
        x.make(MapStore.TABLE, key, value, entries);
        return x;
    }

    private static int give(MapStore x, long key, long value) {
        x.lay(0, key);
        x.lay(8, value);
        return x.update(1, 0, 8, MapStore.ANY);
    }

    private static int placeOf(MapStore x, long key) {
        x.lay(0, key);
        return x.find(1, 0);
    }

    private static int drop(MapStore x, long key) {
        x.lay(0, key);
        return x.remove(1, 0);
    }

    private static void findsAndUpdates() {
        MapStore x = withTable(8, 5, 3);
        x.store(8, 8, -1L);
        Check.due("find in a new table", placeOf(x, 0), MapStore.NONE);
        Check.due("update", give(x, 0, 0x1122334455667788L), 0);
        Check.due("find", placeOf(x, 0), 8);
        Check.due("v bytes are written, none behind", x.load(8, 8), 0xffffff4455667788L);
        Check.due("used", x.used(1), 1);
        Check.due("update again", give(x, 0, 1L), 0);
        Check.due("the same entry", placeOf(x, 0), 8);
        Check.due("the new value", x.load(8, 8), 0xffffff0000000001L);
        Check.due("used", x.used(1), 1);
        Check.due("update another", give(x, -1, 2L), 0);
        Check.due("find", placeOf(x, -1), 16);
        Check.due("used", x.used(1), 2);
        Check.due("the place stays", placeOf(x, 0), 8);
    }

    private static void leastFreeEntry() {
        MapStore x = withTable(8, 8, 4);
        for (int i = 0; i < 4; i++) {
            give(x, 100 + i, i);
        }
        Check.due("remove", drop(x, 102), 0);
        Check.due("remove", drop(x, 100), 0);
        Check.due("used", x.used(1), 2);
        Check.due("the last stays", placeOf(x, 103), 8 + 24);
        Check.due("update", give(x, 200, 9), 0);
        Check.due("the least free entry", placeOf(x, 200), 8);
        Check.due("update", give(x, 201, 9), 0);
        Check.due("the next free entry", placeOf(x, 201), 8 + 16);
        Check.due("full", give(x, 202, 9), -7);
        Check.due("used", x.used(1), 4);
        Check.due("find none", placeOf(x, 202), MapStore.NONE);
        Check.due("find none", placeOf(x, 100), MapStore.NONE);
    }

    private static void flagsAndFullness() {
        MapStore x = withTable(8, 8, 1);
        x.lay(0, 1L);
        x.lay(8, 50L);
        Check.due("THERE without the key", x.update(1, 0, 8, MapStore.THERE), -2);
        Check.due("used", x.used(1), 0);
        Check.due("NEW without the key", x.update(1, 0, 8, MapStore.NEW), 0);
        x.lay(8, 51L);
        Check.due("NEW with the key", x.update(1, 0, 8, MapStore.NEW), -17);
        Check.due("nothing is written", x.load(8, 8), 50L);
        Check.due("THERE with the key", x.update(1, 0, 8, MapStore.THERE), 0);
        Check.due("it is written", x.load(8, 8), 51L);
        x.lay(16, 2L);
        Check.due("full, ANY", x.update(1, 16, 8, MapStore.ANY), -7);
        Check.due("full, NEW", x.update(1, 16, 8, MapStore.NEW), -7);
        Check.due("full, THERE", x.update(1, 16, 8, MapStore.THERE), -2);
        int[] wrong = {-1, 3, 4, Integer.MAX_VALUE, Integer.MIN_VALUE};
        for (int f : wrong) {
            Check.due("flags " + f + " with the key", x.update(1, 0, 8, f), -22);
            Check.due("flags " + f + " when full", x.update(1, 16, 8, f), -22);
        }
        Check.due("nothing is written", x.load(8, 8), 51L);
    }

    private static void removedBytesStay() {
        MapStore x = withTable(8, 8, 2);
        give(x, 1, 77L);
        Check.due("remove", drop(x, 1), 0);
        Check.due("the bytes stay", x.load(8, 8), 77L);
        Check.due("used", x.used(1), 0);
        Check.due("remove again", drop(x, 1), -2);
        Check.due("used", x.used(1), 0);
        Check.due("THERE behind remove", x.update(1, 0, 8, MapStore.THERE), -2);
        Check.due("NEW behind remove", x.update(1, 0, 8, MapStore.NEW), 0);
        Check.due("used", x.used(1), 1);
        Check.due("remove what never was", drop(x, 5), -2);
    }

    private static void wholeKeysCount() {
        int[] sizes = {1, 2, 7, 8, 9, 63, 64};
        for (int k : sizes) {
            MapStore x = withTable(k, 8, 8);
            Check.due("a key of zeros", x.update(1, 0, 100, 0), 0);
            x.lay(200 + k - 1, 1L);
            Check.due("it differs in its last byte", x.find(1, 200), MapStore.NONE);
            Check.due("another entry", x.update(1, 200, 100, MapStore.NEW), 0);
            x.lay(300, 1L);
            int same = k == 1 ? 16 : MapStore.NONE;
            Check.due("it differs in its first byte, k " + k, x.find(1, 300), same);
            x.lay(400 + k, -1L);
            Check.due("what stands behind a key is not of it", x.find(1, 400), 8);
            Check.due("entry 1", x.find(1, 200), 16);
            Check.due("used", x.used(1), 2);
        }
    }

    private static void keysAreKept() {
        MapStore x = withTable(4, 4, 2);
        give(x, 9, 1);
        x.lay(0, 0L);
        x.store(8, 8, -1L);
        Check.due("the key is not in the area, nor on the desk", placeOf(x, 9), 8);
        x.lay(508 - 4, 9L << 32);
        Check.due("a key at the desk's end", x.find(1, 508), 8);
    }

    private static void followingKeys() {
        MapStore x = withTable(8, 8, 5);
        Check.due("next of an empty table", x.next(1, MapStore.NONE, 16), MapStore.NONE);
        for (int i = 0; i < 5; i++) {
            give(x, 50 - i, i);
        }
        drop(x, 50);
        drop(x, 48);
        x.lay(16, 1234L);
        Check.due("the least", x.next(1, MapStore.NONE, 24), 1);
        Check.due("its key", x.desk(24), 49L);
        Check.due("nothing else is written", x.desk(16), 1234L);
        Check.due("the one above", x.next(1, 24, 24), 3);
        Check.due("its key", x.desk(24), 47L);
        Check.due("the one above", x.next(1, 24, 24), 4);
        Check.due("its key", x.desk(24), 46L);
        Check.due("no more", x.next(1, 24, 32), MapStore.NONE);
        Check.due("nothing is written", x.desk(32), 0L);
        x.lay(0, 48L);
        Check.due("of a removed key, the least", x.next(1, 0, 40), 1);
        Check.due("its key", x.desk(40), 49L);
        x.lay(0, 7L);
        Check.due("of no key, the least", x.next(1, 0, 504), 1);
        Check.due("its key at the desk's end", x.desk(504), 49L);
    }

    private static void followingOverItself() {
        MapStore x = withTable(64, 1, 3);
        for (int i = 0; i < 3; i++) {
            x.lay(448, 0x0101010101010101L * i);
            x.update(1, 448, 0, MapStore.NEW);
        }
        x.lay(448, 0L);
        Check.due("a key partly over the key asked for", x.next(1, 448, 440), 1);
        Check.due("its first bytes", x.desk(440), 0x0101010101010101L);
        Check.due("its rest", x.desk(448), 0L);
    }

    private static void beyondTheDesk() {
        MapStore x = withTable(64, 256, 2);
        Check.due("update at the edges", x.update(1, 448, 256, 0), 0);
        Check.due("find at the edge", x.find(1, 448), 8);
        int[] keys = {449, 512, -2, -64, Integer.MAX_VALUE, Integer.MIN_VALUE};
        for (int at : keys) {
            Check.throwsDue("find at " + at, Check.BEYOND, () -> x.find(1, at));
            Check.throwsDue("update with a key at " + at, Check.BEYOND, () -> x.update(1, at, 0, 0));
            Check.throwsDue("the same with wrong flags", Check.BEYOND, () -> x.update(1, at, 0, 3));
            Check.throwsDue("remove at " + at, Check.BEYOND, () -> x.remove(1, at));
            Check.throwsDue("next of " + at, Check.BEYOND, () -> x.next(1, at, 0));
            Check.throwsDue("next to " + at, Check.BEYOND, () -> x.next(1, -1, at));
            Check.throwsDue("next to " + at + " of the last", Check.BEYOND, () -> x.next(1, 0, at));
        }
        Check.throwsDue("find at -1", Check.BEYOND, () -> x.find(1, -1));
        Check.throwsDue("update at -1", Check.BEYOND, () -> x.update(1, -1, 0, 0));
        Check.throwsDue("remove at -1", Check.BEYOND, () -> x.remove(1, -1));
        Check.throwsDue("next to -1", Check.BEYOND, () -> x.next(1, -1, -1));
        int[] values = {257, 512, -1, Integer.MAX_VALUE, Integer.MIN_VALUE};
        for (int at : values) {
            Check.throwsDue("update with a value at " + at, Check.BEYOND, () -> x.update(1, 0, at, 0));
            Check.throwsDue("also when none is written", Check.BEYOND, () -> x.update(1, 0, at, 1));
            Check.throwsDue("also with wrong flags", Check.BEYOND, () -> x.update(1, 0, at, 3));
        }
        Check.due("used", x.used(1), 1);
        Check.due("remove at the edge", x.remove(1, 448), 0);
        Check.throwsDue("next to 449 when empty", Check.BEYOND, () -> x.next(1, -1, 449));
        Check.due("next to the edge", x.next(1, -1, 448), MapStore.NONE);
    }

    private static void notForTables() {
        MapStore x = withTable(8, 8, 2);
        int[] places = {0, 600, -1, Integer.MIN_VALUE, Integer.MAX_VALUE};
        for (int at : places) {
            Check.due("put at " + at, x.put(1, at, 4), -22);
            Check.due("put of a wrong size", x.put(1, at, 257), -22);
            Check.due("take at " + at, x.take(1, at), -22);
        }
    }

    private static void manyKeys() {
        MapStore x = withTable(8, 8, 4096);
        for (int i = 0; i < 100; i++) {
            Check.due("update", give(x, i * 1000003L, i), 0);
        }
        for (int i = 0; i < 100; i++) {
            int place = placeOf(x, i * 1000003L);
            Check.due("find", place, 8 + 8 * i);
        }
        Check.due("used", x.used(1), 100);
    }
}
