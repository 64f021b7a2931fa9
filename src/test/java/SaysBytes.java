/** The sentences on the object's calls, on bytes, on the desk and on the area. */
final class SaysBytes {
    private SaysBytes() {
    }

    static void run() {
        Sentence.of(Sentence.WHAT_IT_IS, "Maps that small programs in a kernel keep their data in: arrays, maps by"
                + " keys, and rings of records, all over one area of bytes in which values have places that stay;"
                + " programs find a value's place by its key, and read and write there.");
        placesStay();
        Sentence.of(Sentence.WHAT_IT_IS, "An object is used for at most 512 calls after it has been made; what"
                + " later calls answer is free.");
        tableFor512Calls();
        ringFor512Calls();
        Sentence.ofTerms("BYTES are 0 .. 255; a number of n bytes stands in bytes with the lowest one first.");
        everyByteInTheArea();
        everyByteOnTheDesk();
        lowestFirst();
        Sentence.ofTerms("THE DESK has 512 bytes, at first 0");
        deskAtFirst();
        deskEnds();
        Sentence.ofTerms("keys, values and records are read there and, where it is said, written there.");
        readAtTheDesksEnds();
        writtenAtTheDesksEnds();
        onlySaidWrites();
        Sentence.ofTerms("THE AREA has 65,536 bytes, at first 0, in which the values of all maps stand.");
        areaAtFirst();
        areaEnds();
        valuesToTheLastByte();
    }

    private static void placesStay() {
        MapStore x = Stores.table(8, 8, 4);
        Stores.update(x, 0, 5, 50, MapStore.NEW);
        Stores.update(x, 0, 6, 60, MapStore.NEW);
        int place = Stores.find(x, 0, 6);
        Stores.remove(x, 0, 5);
        x.make(MapStore.ARRAY, 4, 8, 4);
        Stores.update(x, 0, 6, 61, MapStore.THERE);
        Check.due("the place behind other calls", Stores.find(x, 0, 6), place);
        Check.due("read there", x.load(place, 8), 61);
        x.store(place, 8, 62L);
        Check.due("written there", x.load(Stores.find(x, 0, 6), 8), 62);
    }

    private static void tableFor512Calls() {
        MapStore x = Stores.table(8, 8, 4096);
        for (int i = 0; i < 170; i++) {
            x.lay(0, i * 1000003L);
            Check.due("update " + i, x.update(0, 0, 0, MapStore.NEW), 0);
            Check.due("find " + i, x.find(0, 0), 8 * i);
        }
        Check.due("used, the 512th call", x.used(0), 170);
    }

    private static void ringFor512Calls() {
        MapStore x = Stores.ring(64);
        for (int i = 0; i < 170; i++) {
            int size = 1 + i % 56;
            Check.due("put " + i, x.put(0, 0, size), 0);
            Check.due("used " + i, x.used(0), 8 + Stores.filledUp(size));
            Check.due("take " + i, x.take(0, 0), size);
        }
        Check.due("take of none, the 512th call", x.take(0, 0), -2);
    }

    private static void everyByteInTheArea() {
        MapStore x = new MapStore();
        for (int b = 0; b <= 255; b++) {
            x.store(b, 1, b);
        }
        for (int b = 0; b <= 255; b++) {
            Check.due("byte " + b, x.load(b, 1), b);
        }
        MapStore y = new MapStore();
        y.store(1, 1, 256L);
        Check.due("256 is no byte", y.load(0, 4), 0);
        y.store(1, 1, -1L);
        Check.due("-1 as a byte", y.load(0, 4), 255L << 8);
    }

    private static void everyByteOnTheDesk() {
        MapStore x = new MapStore();
        Stores.layRow(x, 100, 0, 256);
        for (int b = 0; b <= 255; b++) {
            Check.due("byte " + b, Stores.deskByte(x, 100 + b), b);
        }
    }

    private static void lowestFirst() {
        MapStore x = Stores.array(1, 4096);
        x.store(40000, 8, 0x8807060504030201L);
        for (int i = 0; i < 7; i++) {
            Check.due("byte " + i + " of eight", x.load(40000 + i, 1), i + 1);
        }
        Check.due("byte 7 of eight", x.load(40007, 1), 0x88);
        x.store(40016, 4, 0x04030201L);
        Check.due("two bytes of four", x.load(40017, 2), 0x0302);
        x.lay(1, 0x8807060504030201L);
        Check.due("from a byte before it", x.desk(0), 0x0706050403020100L);
        Check.due("from a byte behind its first", x.desk(2), 0x0088070605040302L);
        x.lay(0, 0x0102L);
        Check.due("a key of two bytes that count", x.find(0, 0), 8 * 0x0102);
    }

    private static void deskAtFirst() {
        MapStore x = new MapStore();
        Stores.sameDesk("a new object", x, new long[64]);
    }

    private static void deskEnds() {
        MapStore x = new MapStore();
        x.lay(0, 0x11L);
        x.lay(504, 0x7700000000000000L);
        Check.due("the desk's first byte", Stores.deskByte(x, 0), 0x11);
        Check.due("the desk's last byte", Stores.deskByte(x, 511), 0x77);
        int[] near = {-8, -7, -1, 505, 511, 512, 513};
        for (int at : near) {
            noDeskAt(x, at);
        }
        for (int at : Stores.WILD) {
            noDeskAt(x, at);
        }
        Check.due("the desk's first bytes", x.desk(0), 0x11);
        Check.due("the desk's last bytes", x.desk(504), 0x7700000000000000L);
    }

    private static void noDeskAt(MapStore x, int at) {
        Check.throwsDue("desk(" + at + ")", Check.BEYOND, () -> x.desk(at));
        Check.throwsDue("lay(" + at + ", -1)", Check.BEYOND, () -> x.lay(at, -1L));
    }

    private static void readAtTheDesksEnds() {
        int[] ends = {0, 511};
        for (int at : ends) {
            MapStore x = Stores.table(1, 1, 2);
            x.make(MapStore.RING, 0, 0, 64);
            x.lay(0, 0x21L);
            x.lay(504, 0x22L << 56);
            int b = at == 0 ? 0x21 : 0x22;
            Check.due("key and value at " + at, x.update(0, at, at, MapStore.NEW), 0);
            Check.due("the value", x.load(0, 1), b);
            Check.due("find at " + at, x.find(0, at), 0);
            Check.due("remove at " + at, x.remove(0, at), 0);
            Check.due("put at " + at, x.put(1, at, 1), 0);
            Check.due("the record", x.load(16 + 8, 1), b);
        }
    }

    private static void writtenAtTheDesksEnds() {
        int[] ends = {0, 511};
        for (int at : ends) {
            MapStore x = Stores.table(1, 1, 2);
            x.make(MapStore.RING, 0, 0, 64);
            x.lay(100, 0x33L);
            x.update(0, 100, 100, MapStore.NEW);
            x.put(1, 100, 1);
            Check.due("next to " + at, x.next(0, MapStore.NONE, at), 0);
            Check.due("the key at " + at, Stores.deskByte(x, at), 0x33);
            x.lay(0, 0L);
            x.lay(504, 0L);
            Check.due("take to " + at, x.take(1, at), 1);
            Check.due("the record at " + at, Stores.deskByte(x, at), 0x33);
        }
    }

    private static void onlySaidWrites() {
        MapStore x = new MapStore();
        Stores.layRow(x, 0, 1, 512);
        long[] before = Stores.wholeDesk(x);
        x.make(MapStore.TABLE, 9, 17, 2);
        x.make(MapStore.ARRAY, 4, 17, 2);
        x.make(MapStore.RING, 0, 0, 64);
        x.update(0, 3, 40, MapStore.ANY);
        x.update(0, 4, 40, MapStore.ANY);
        x.update(0, 5, 40, MapStore.ANY);
        x.update(1, 3, 40, MapStore.ANY);
        x.find(0, 3);
        x.find(1, 3);
        x.put(2, 7, 11);
        x.store(0, 8, -1L);
        x.load(0, 8);
        x.remove(0, 3);
        x.next(0, 4, 200);
        x.next(1, 4, 200);
        x.take(1, 200);
        Stores.sameDesk("behind calls that write nothing there", x, before);
    }

    private static void areaAtFirst() {
        for (int part = 0; part < 16; part++) {
            MapStore x = new MapStore();
            for (int i = 0; i < 512; i++) {
                int at = 8 * (512 * part + i);
                Check.due("a new object, area at " + at, x.load(at, 8), 0);
            }
        }
    }

    private static void areaEnds() {
        for (int size = 1; size <= 8; size *= 2) {
            MapStore x = new MapStore();
            x.store(0, size, 0x11L);
            x.store(65536 - size, size, 0x77L);
            Check.due("the first " + size + " bytes", x.load(0, size), 0x11);
            Check.due("the last " + size + " bytes", x.load(65536 - size, size), 0x77);
            int[] near = {-8, -size, -1, 65537 - size, 65536, 65537};
            for (int at : near) {
                noAreaAt(x, at, size);
            }
            for (int at : Stores.WILD) {
                noAreaAt(x, at, size);
            }
            Check.due("the first bytes", x.load(0, 8), 0x11);
            Check.due("the last bytes", x.load(65536 - size, size), 0x77);
        }
    }

    private static void noAreaAt(MapStore x, int at, int size) {
        Check.throwsDue("load(" + at + ", " + size + ")", Check.BEYOND, () -> x.load(at, size));
        Check.throwsDue("store(" + at + ", " + size + ", -1)", Check.BEYOND, () -> x.store(at, size, -1L));
    }

    private static void valuesToTheLastByte() {
        MapStore x = Stores.array(256, 255);
        x.make(MapStore.TABLE, 1, 256, 1);
        Stores.layRow(x, 256, 0, 256);
        Check.due("update of the last place", x.update(1, 0, 256, MapStore.NEW), 0);
        Check.due("its place", x.find(1, 0), 65280);
        Check.due("its first byte", x.load(65280, 1), 0);
        Check.due("its last byte", x.load(65535, 1), 255);
        MapStore y = new MapStore();
        for (int i = 0; i < 4; i++) {
            y.make(MapStore.RING, 0, 0, 16384);
        }
        y.lay(0, 0x99L);
        for (int i = 0; i < 62; i++) {
            Check.due("put of 256", y.put(3, 0, 256), 0);
        }
        Check.due("the last ring's last record", y.load(49152 + 61 * 264 + 8, 1), 0x99);
        Check.due("no room for more", y.put(3, 0, 9), -11);
        Check.due("room for 8", y.put(3, 0, 8), 0);
        Check.due("its header", y.load(65520, 8), 62L << 32 | 8);
        Check.due("its bytes, the area's last", y.load(65528, 8), 0x99);
    }
}
