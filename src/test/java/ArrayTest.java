/** Promises 10 to 15 for arrays. */
public final class ArrayTest {
    public static void main(String[] args) {
        finds();
        updates();
        flags();
        beyondTheDesk();
        notForArrays();
        Check.done();
    }

    private static MapStore withArray(int value, int entries) {
        MapStore x = new MapStore();
        x.make(MapStore.RING, 0, 0, 64);
        x.make(MapStore.ARRAY, 4, value, entries);
        return x;
    }

    private static void finds() {
        MapStore x = withArray(10, 3);
        for (int e = 0; e < 3; e++) {
            x.lay(0, e);
            Check.due("find entry " + e, x.find(1, 0), 64 + 16 * e);
        }
        long[] none = {3, 4, 256, 0x7fffffffL, 0x80000000L, 0xffffffffL, 0x80000001L};
        for (long key : none) {
            x.lay(0, key);
            Check.due("find entry " + key, x.find(1, 0), MapStore.NONE);
        }
        x.lay(0, 0xffffffff00000002L);
        Check.due("the key has 4 bytes", x.find(1, 0), 64 + 32);
        x.lay(504, 1L << 32);
        Check.due("find with a key at the desk's end", x.find(1, 508), 64 + 16);
    }

    private static void updates() {
        MapStore x = withArray(10, 3);
        x.store(80, 8, -1L);
        x.store(88, 8, -1L);
        x.lay(0, 1L);
        x.lay(8, 0x1122334455667788L);
        x.lay(16, 0x99aaL);
        Check.due("update", x.update(1, 0, 8, MapStore.ANY), 0);
        Check.due("the value", x.load(80, 8), 0x1122334455667788L);
        Check.due("the value's rest, and not the bytes behind it", x.load(88, 8), 0xffffffffffff99aaL);
        Check.due("the entry before", x.load(72, 8), 0);
        Check.due("the entry behind", x.load(96, 8), 0);
        Check.due("used", x.used(1), 3);
        x.lay(8, 5L);
        x.store(80, 8, 9L);
        Check.due("programs' writes are what stands", x.load(x.find(1, 0), 8), 9L);
        Check.due("update with THERE", x.update(1, 0, 8, MapStore.THERE), 0);
        Check.due("the value", x.load(80, 8), 5L);
        x.lay(0, 2L);
        Check.due("update of the last", x.update(1, 0, 8, MapStore.ANY), 0);
        Check.due("the value", x.load(96, 8), 5L);
    }

    private static void flags() {
        MapStore x = withArray(8, 2);
        x.lay(0, 1L);
        x.lay(8, 7L);
        Check.due("NEW with an entry", x.update(1, 0, 8, MapStore.NEW), -17);
        int[] wrong = {-1, 3, 4, Integer.MAX_VALUE, Integer.MIN_VALUE};
        for (int f : wrong) {
            Check.due("flags " + f, x.update(1, 0, 8, f), -22);
        }
        long[] none = {2, 0x80000000L, 0xffffffffL};
        for (long key : none) {
            x.lay(0, key);
            for (int f = MapStore.ANY; f <= MapStore.THERE; f++) {
                Check.due("no entry " + key + ", flags " + f, x.update(1, 0, 8, f), -7);
            }
            Check.due("no entry and wrong flags", x.update(1, 0, 8, 3), -22);
        }
        Check.due("nothing was written", x.load(64, 8), 0);
        Check.due("nothing was written", x.load(72, 8), 0);
        Check.due("nothing was written", x.load(80, 8), 0);
    }

    private static void beyondTheDesk() {
        MapStore x = withArray(10, 2);
        int[] keys = {-1, -4, 509, 512, Integer.MAX_VALUE, Integer.MIN_VALUE};
        for (int at : keys) {
            Check.throwsDue("find at " + at, Check.BEYOND, () -> x.find(1, at));
            Check.throwsDue("update with a key at " + at, Check.BEYOND, () -> x.update(1, at, 0, 0));
            Check.throwsDue("the same with wrong flags", Check.BEYOND, () -> x.update(1, at, 0, 3));
        }
        int[] values = {-1, -10, 503, 512, Integer.MAX_VALUE, Integer.MIN_VALUE};
        for (int at : values) {
            Check.throwsDue("update with a value at " + at, Check.BEYOND, () -> x.update(1, 0, at, 0));
            Check.throwsDue("also when none is written", Check.BEYOND, () -> x.update(1, 0, at, 1));
            Check.throwsDue("also with wrong flags", Check.BEYOND, () -> x.update(1, 0, at, 3));
        }
        Check.due("a value at the desk's end", x.update(1, 0, 502, 0), 0);
    }

    private static void notForArrays() {
        MapStore x = withArray(8, 2);
        int[] places = {0, 600, -1, Integer.MIN_VALUE, Integer.MAX_VALUE};
        for (int at : places) {
            Check.due("remove at " + at, x.remove(1, at), -22);
            Check.due("put at " + at, x.put(1, at, 4), -22);
            Check.due("put of a wrong size", x.put(1, at, 0), -22);
            Check.due("take at " + at, x.take(1, at), -22);
            Check.due("next at " + at, x.next(1, at, 0), -22);
            Check.due("next to " + at, x.next(1, 0, at), -22);
        }
        Check.due("used", x.used(1), 2);
    }
}
