/** Objects with one map, number 0, and what tests often do with them. */
final class Stores {
    /** Numbers that are far from every limit of the document. */
    static final int[] WILD = {Integer.MIN_VALUE, Integer.MIN_VALUE + 1, -65536, 65536, 1 << 30,
        Integer.MAX_VALUE - 1, Integer.MAX_VALUE};

    private Stores() {
    }

    static MapStore array(int value, int entries) {
        MapStore x = new MapStore();
        x.make(MapStore.ARRAY, 4, value, entries);
        return x;
    }

    static MapStore table(int key, int value, int entries) {
        MapStore x = new MapStore();
        x.make(MapStore.TABLE, key, value, entries);
        return x;
    }

    static MapStore ring(int bytes) {
        MapStore x = new MapStore();
        x.make(MapStore.RING, 0, 0, bytes);
        return x;
    }

    /** A ring of 64 bytes that a take has found broken, with a record of 8 bytes in it. */
    static MapStore brokenRing() {
        MapStore x = ring(64);
        x.put(0, 0, 8);
        x.store(0, 4, 0L);
        x.take(0, 0);
        return x;
    }

    /** The key goes to byte 0 of the desk, the value to byte 8. */
    static int update(MapStore x, int map, long key, long value, int flags) {
        x.lay(0, key);
        x.lay(8, value);
        return x.update(map, 0, 8, flags);
    }

    static int find(MapStore x, int map, long key) {
        x.lay(0, key);
        return x.find(map, 0);
    }

    static int remove(MapStore x, int map, long key) {
        x.lay(0, key);
        return x.remove(map, 0);
    }

    static int deskByte(MapStore x, int at) {
        int from = Math.min(at, 504);
        return (int) (x.desk(from) >>> 8 * (at - from)) & 255;
    }

    /** Bytes first, first + 1, .. on the desk; many is a number that 8 divides. */
    static void layRow(MapStore x, int at, int first, int many) {
        for (int i = 0; i < many; i += 8) {
            long v = 0;
            for (int j = 7; j >= 0; j--) {
                v = v << 8 | (first + i + j & 255);
            }
            x.lay(at + i, v);
        }
    }

    static long[] wholeDesk(MapStore x) {
        long[] words = new long[64];
        for (int i = 0; i < 64; i++) {
            words[i] = x.desk(8 * i);
        }
        return words;
    }

    static void sameDesk(String what, MapStore x, long[] words) {
        for (int i = 0; i < 64; i++) {
            Check.due(what + ", desk at " + 8 * i, x.desk(8 * i), words[i]);
        }
    }

    static int filledUp(int bytes) {
        return (bytes + 7) / 8 * 8;
    }
}
