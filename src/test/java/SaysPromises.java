/** The sentences of the sixteen promises themselves. */
final class SaysPromises {
    private static final long ODD = 0x8877665544332211L;

    private SaysPromises() {
    }

    static void run() {
        Sentence.ofPromise(1, "No map.");
        noMap();
        Sentence.ofPromise(2, "A map more: its number. IllegalArgumentException, IllegalStateException.");
        aMapMore();
        Sentence.ofPromise(3, "How many maps there are.");
        howManyMaps();
        Sentence.ofPromise(4, "Where the first byte of a map stands in the area. IndexOutOfBoundsException.");
        firstBytes();
        Sentence.ofPromise(5, "How many entries of a table have a key; of an array, how many there are; of a ring,"
                + " HEAD - TAIL. IndexOutOfBoundsException.");
        used();
        Sentence.ofPromise(6, "Eight bytes of the desk. IndexOutOfBoundsException.");
        eightBytesRead();
        Sentence.ofPromise(7, "Eight bytes are put onto the desk. IndexOutOfBoundsException.");
        eightBytesPut();
        Sentence.ofPromise(8, "A number of 1, 2, 4 or 8 bytes of the area, without sign. IndexOutOfBoundsException;"
                + " IllegalArgumentException: another size.");
        withoutSign();
        otherSizesToLoad();
        Sentence.ofPromise(9, "The lowest size bytes of v are put into the area. IndexOutOfBoundsException;"
                + " IllegalArgumentException: another size.");
        lowestBytes();
        otherSizesToStore();
        SaysCalls.run();
    }

    private static void noMap() {
        MapStore x = new MapStore();
        Check.due("maps()", x.maps(), 0);
        Check.throwsDue("used(0)", Check.BEYOND, () -> x.used(0));
        Check.throwsDue("begins(0)", Check.BEYOND, () -> x.begins(0));
        Check.due("all of the area is left", x.make(MapStore.ARRAY, 4, 256, 256), 0);
        MapStore y = new MapStore();
        Check.due("maps() of another object", y.maps(), 0);
    }

    private static void aMapMore() {
        MapStore x = new MapStore();
        Check.due("make", x.make(MapStore.ARRAY, 4, 1, 1), 0);
        Check.due("make", x.make(MapStore.TABLE, 1, 1, 1), 1);
        Check.due("make", x.make(MapStore.RING, 0, 0, 64), 2);
        Check.throwsDue("a wrong number", Check.ARGUMENT, () -> x.make(MapStore.RING, 0, 0, 63));
        Check.throwsDue("too little area", Check.STATE, () -> x.make(MapStore.ARRAY, 4, 256, 256));
        Check.due("make", x.make(MapStore.ARRAY, 4, 1, 1), 3);
    }

    private static void howManyMaps() {
        MapStore x = new MapStore();
        for (int i = 0; i < 64; i++) {
            Check.due("maps()", x.maps(), i);
            x.make(MapStore.ARRAY, 4, 1, 1);
        }
        Check.due("maps() at most", x.maps(), 64);
        Check.throwsDue("make", Check.STATE, () -> x.make(MapStore.ARRAY, 4, 1, 1));
        Check.due("maps() at most", x.maps(), 64);
    }

    private static void firstBytes() {
        MapStore x = Stores.array(1, 1);
        x.make(MapStore.RING, 0, 0, 16384);
        x.make(MapStore.TABLE, 1, 256, 191);
        x.make(MapStore.TABLE, 1, 248, 1);
        Check.due("begins(0)", x.begins(0), 0);
        Check.due("begins(1)", x.begins(1), 8);
        Check.due("begins(2)", x.begins(2), 16392);
        Check.due("begins(3)", x.begins(3), 65288);
        Check.due("begins(0) again", x.begins(0), 0);
        Check.throwsDue("begins(4)", Check.BEYOND, () -> x.begins(4));
        Check.throwsDue("begins(-1)", Check.BEYOND, () -> x.begins(-1));
        MapStore y = Stores.array(16, 4095);
        y.make(MapStore.ARRAY, 4, 8, 1);
        y.make(MapStore.ARRAY, 4, 8, 1);
        Check.due("the area's last eight bytes", y.begins(2), 65528);
    }

    private static void used() {
        MapStore x = Stores.table(8, 8, 2);
        x.make(MapStore.ARRAY, 4, 8, 4096);
        x.make(MapStore.RING, 0, 0, 64);
        Check.due("an empty table", x.used(0), 0);
        Stores.update(x, 0, 1, 1, MapStore.ANY);
        Check.due("one key", x.used(0), 1);
        Stores.update(x, 0, 1, 2, MapStore.ANY);
        Check.due("the same key", x.used(0), 1);
        Stores.update(x, 0, 2, 2, MapStore.ANY);
        Check.due("a full table", x.used(0), 2);
        Stores.update(x, 0, 3, 2, MapStore.ANY);
        Check.due("a key too much", x.used(0), 2);
        Stores.remove(x, 0, 1);
        Check.due("a key removed", x.used(0), 1);
        Stores.remove(x, 0, 1);
        Check.due("a key removed twice", x.used(0), 1);
        Check.due("an array, always", x.used(1), 4096);
        Check.due("an empty ring", x.used(2), 0);
        x.put(2, 0, 56);
        Check.due("a full ring", x.used(2), 64);
        x.put(2, 0, 1);
        Check.due("no room in it", x.used(2), 64);
        x.take(2, 0);
        Check.due("an empty ring again", x.used(2), 0);
        Check.throwsDue("used(3)", Check.BEYOND, () -> x.used(3));
        Check.throwsDue("used(-1)", Check.BEYOND, () -> x.used(-1));
    }

    private static void eightBytesRead() {
        MapStore x = new MapStore();
        Stores.layRow(x, 0, 0, 512);
        for (int at = 0; at <= 504; at += 21) {
            long want = 0;
            for (int i = 7; i >= 0; i--) {
                want = want << 8 | (at + i & 255);
            }
            Check.due("desk(" + at + ")", x.desk(at), want);
        }
        Check.throwsDue("desk(505)", Check.BEYOND, () -> x.desk(505));
        Check.throwsDue("desk(-1)", Check.BEYOND, () -> x.desk(-1));
    }

    private static void eightBytesPut() {
        int[] places = {1, 7, 8, 495, 496};
        for (int at : places) {
            MapStore x = new MapStore();
            x.lay(at - 1, -1L);
            x.lay(at + 1, -1L);
            x.lay(at, ODD);
            Check.due("eight bytes at " + at, x.desk(at), ODD);
            Check.due("the byte before " + at, Stores.deskByte(x, at - 1), 255);
            Check.due("the byte behind " + at, Stores.deskByte(x, at + 8), 255);
        }
        MapStore y = new MapStore();
        long[] values = {0, 1, -1, Long.MIN_VALUE, Long.MAX_VALUE};
        for (long v : values) {
            y.lay(504, v);
            Check.due("lay(504, " + v + ")", y.desk(504), v);
            y.lay(0, v);
            Check.due("lay(0, " + v + ")", y.desk(0), v);
        }
        Check.throwsDue("lay(505, 5)", Check.BEYOND, () -> y.lay(505, 5L));
        Check.throwsDue("lay(-1, 5)", Check.BEYOND, () -> y.lay(-1, 5L));
        Check.due("the desk's end", y.desk(504), Long.MAX_VALUE);
    }

    private static void withoutSign() {
        MapStore x = new MapStore();
        x.store(16, 8, -1L);
        Check.due("load(16, 1)", x.load(16, 1), 0xffL);
        Check.due("load(16, 2)", x.load(16, 2), 0xffffL);
        Check.due("load(16, 4)", x.load(16, 4), 0xffffffffL);
        Check.due("load(16, 8)", x.load(16, 8), -1L);
        x.store(31, 8, ODD);
        Check.due("load(38, 1)", x.load(38, 1), 0x88L);
        Check.due("load(37, 2)", x.load(37, 2), 0x8877L);
        Check.due("load(35, 4)", x.load(35, 4), 0x88776655L);
        Check.due("load(31, 8)", x.load(31, 8), ODD);
        Check.due("load(30, 8)", x.load(30, 8), ODD << 8);
        Check.throwsDue("load(65529, 8)", Check.BEYOND, () -> x.load(65529, 8));
        Check.throwsDue("load(-1, 1)", Check.BEYOND, () -> x.load(-1, 1));
    }

    private static void otherSizesToLoad() {
        MapStore x = new MapStore();
        for (int size = -9; size <= 17; size++) {
            int s = size;
            if (s != 1 && s != 2 && s != 4 && s != 8) {
                Check.throwsDue("load(0, " + s + ")", Check.ARGUMENT, () -> x.load(0, s));
            }
        }
        for (int s : Stores.WILD) {
            Check.throwsDue("load(0, " + s + ")", Check.ARGUMENT, () -> x.load(0, s));
        }
    }

    private static void lowestBytes() {
        for (int size = 1; size <= 8; size *= 2) {
            MapStore x = new MapStore();
            x.store(0, 8, -1L);
            x.store(8, 8, -1L);
            x.store(3, size, ODD);
            for (int at = 0; at < 16; at++) {
                int want = at < 3 || at >= 3 + size ? 255 : 0x11 * (at - 2);
                Check.due("size " + size + ", byte " + at, x.load(at, 1), want);
            }
            int s = size;
            Check.throwsDue("store, one byte beyond", Check.BEYOND, () -> x.store(65537 - s, s, 1L));
            Check.throwsDue("store, one byte before", Check.BEYOND, () -> x.store(-1, s, 1L));
            Check.due("the area's end", x.load(65528, 8), 0);
        }
    }

    private static void otherSizesToStore() {
        MapStore x = new MapStore();
        for (int size = -9; size <= 17; size++) {
            int s = size;
            if (s != 1 && s != 2 && s != 4 && s != 8) {
                Check.throwsDue("store(0, " + s + ", -1)", Check.ARGUMENT, () -> x.store(0, s, -1L));
            }
        }
        for (int s : Stores.WILD) {
            Check.throwsDue("store(0, " + s + ", -1)", Check.ARGUMENT, () -> x.store(0, s, -1L));
        }
        Check.due("nothing is written", x.load(0, 8), 0);
    }
}
