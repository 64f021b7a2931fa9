/** The sentences on maps, their kinds and sizes, on flags and on what goes wrong. */
final class SaysMaps {
    private SaysMaps() {
    }

    static void run() {
        Sentence.ofTerms("A MAP has a KIND, a key's size k, a value's size v, a number of entries n; maps are"
                + " numbered 0, 1, .. as they are made, 64 at most.");
        numbered();
        sixtyFour();
        Sentence.ofTerms("When it is made it gets the next n * v bytes of the area (v being filled up to a number"
                + " that 8 divides, for that; a ring n bytes)");
        nextBytes();
        allBytes();
        Sentence.ofTerms("as they are (0, where nothing was stored)");
        asTheyAre();
        Sentence.ofTerms("entry e of it begins e times v (filled up) behind its first byte.");
        placesOfEntries();
        Sentence.ofTerms("KIND 0, an ARRAY: k is 4, v 1 .. 256, n 1 .. 4096.");
        arraySizes();
        Sentence.ofTerms("The key is the number of the entry.");
        arrayKeys();
        Sentence.ofTerms("KIND 1, a TABLE: k 1 .. 64, v 1 .. 256, n 1 .. 4096.");
        tableSizes();
        Sentence.ofTerms("An entry is FREE, or has a key; all are free at first.");
        freeAtFirst();
        Sentence.ofTerms("KIND 2, a RING: k and v are 0, n is a power of 2, 64 .. 16384.");
        ringSizes();
        otherKinds();
        Sentence.ofTerms("FLAGS of an update are 0 ANY, 1 the key must be NEW, 2 it must be THERE.");
        flags();
        Sentence.ofTerms("ANSWERS of what goes wrong: -2 there is no such key; -7 it is too much; -11 there is no"
                + " room; -17 the key is there; -22 not for this kind, or with these flags or sizes.");
        answers();
        Sentence.ofTerms("Where several could be, -22 is answered first");
        unfitFirst();
        Sentence.ofTerms("and then -17 or -2 before -7.");
        tooMuchLast();
    }

    private static void numbered() {
        MapStore x = new MapStore();
        Check.due("the first", x.make(MapStore.RING, 0, 0, 64), 0);
        Check.due("the second", x.make(MapStore.TABLE, 1, 1, 1), 1);
        Check.throwsDue("none", Check.ARGUMENT, () -> x.make(MapStore.ARRAY, 3, 1, 1));
        Check.due("the third", x.make(MapStore.ARRAY, 4, 1, 1), 2);
        Check.throwsDue("none", Check.STATE, () -> x.make(MapStore.ARRAY, 4, 256, 256));
        Check.due("the fourth", x.make(MapStore.RING, 0, 0, 64), 3);
        Check.due("maps()", x.maps(), 4);
    }

    private static void sixtyFour() {
        MapStore x = new MapStore();
        for (int i = 0; i < 64; i++) {
            int kind = i % 3;
            Check.due("map " + i, x.make(kind, kind == 0 ? 4 : kind == 1 ? 9 : 0, kind == 2 ? 0 : 1,
                    kind == 2 ? 64 : 1), i);
        }
        Check.due("maps()", x.maps(), 64);
        Check.due("used of the last", x.used(63), 1);
        Check.throwsDue("an array more", Check.STATE, () -> x.make(MapStore.ARRAY, 4, 1, 1));
        Check.throwsDue("a table more", Check.STATE, () -> x.make(MapStore.TABLE, 1, 1, 1));
        Check.throwsDue("a ring more", Check.STATE, () -> x.make(MapStore.RING, 0, 0, 64));
        Check.due("maps()", x.maps(), 64);
        Check.throwsDue("used of a map more", Check.BEYOND, () -> x.used(64));
    }

    private static void nextBytes() {
        for (int v = 1; v <= 256; v++) {
            MapStore x = Stores.array(v, 3);
            x.make(MapStore.TABLE, 1, v, 5);
            x.make(MapStore.RING, 0, 0, 128);
            x.make(MapStore.ARRAY, 4, 1, 1);
            Check.due("the first, v " + v, x.begins(0), 0);
            Check.due("behind an array, v " + v, x.begins(1), 3 * Stores.filledUp(v));
            Check.due("behind a table, v " + v, x.begins(2), 8 * Stores.filledUp(v));
            Check.due("behind a ring, v " + v, x.begins(3), 8 * Stores.filledUp(v) + 128);
        }
    }

    private static void allBytes() {
        MapStore x = Stores.array(16, 4095);
        Check.throwsDue("17 bytes, 24 filled up, of 16", Check.STATE, () -> x.make(MapStore.TABLE, 1, 17, 1));
        Check.throwsDue("9 bytes twice of 16", Check.STATE, () -> x.make(MapStore.ARRAY, 4, 9, 2));
        Check.due("9 bytes, 16 filled up, of 16", x.make(MapStore.ARRAY, 4, 9, 1), 1);
        Check.due("its first byte", x.begins(1), 65520);
        Check.throwsDue("1 byte of 0", Check.STATE, () -> x.make(MapStore.TABLE, 1, 1, 1));
        MapStore y = Stores.array(8, 4096);
        y.make(MapStore.ARRAY, 4, 8, 4088);
        Check.throwsDue("a ring of 128 bytes of 64", Check.STATE, () -> y.make(MapStore.RING, 0, 0, 128));
        Check.due("a ring of 64 bytes of 64", y.make(MapStore.RING, 0, 0, 64), 2);
        Check.due("its first byte", y.begins(2), 65472);
        MapStore z = new MapStore();
        Check.throwsDue("more than all", Check.STATE, () -> z.make(MapStore.TABLE, 64, 256, 4096));
        Check.throwsDue("one entry more than all", Check.STATE, () -> z.make(MapStore.TABLE, 1, 249, 257));
        Check.due("all", z.make(MapStore.TABLE, 64, 249, 256), 0);
    }

    private static void asTheyAre() {
        MapStore x = new MapStore();
        x.store(0, 8, 0x11L);
        x.store(8, 8, 0x2222222222222222L);
        x.store(24, 8, 0x3333L);
        x.make(MapStore.ARRAY, 4, 3, 1);
        x.make(MapStore.TABLE, 4, 3, 2);
        x.make(MapStore.RING, 0, 0, 64);
        Check.due("in an array", x.load(0, 8), 0x11);
        Check.due("in a table", x.load(8, 8), 0x2222222222222222L);
        Check.due("in a table, where nothing was stored", x.load(16, 8), 0);
        Check.due("in a ring", x.load(24, 8), 0x3333);
        Check.due("in a ring, where nothing was stored", x.load(32, 8), 0);
        Check.due("the ring is empty", x.take(2, 0), -2);
        x.update(1, 0, 8, MapStore.NEW);
        Check.due("the bytes behind v", x.load(8, 8), 0x2222222222000000L);
    }

    private static void placesOfEntries() {
        int[] sizes = {1, 7, 8, 9, 15, 16};
        for (int v : sizes) {
            MapStore x = Stores.ring(64);
            x.make(MapStore.ARRAY, 4, v, 1000);
            x.make(MapStore.TABLE, 8, v, 3);
            int step = Stores.filledUp(v);
            int[] entries = {0, 1, 2, 999};
            for (int e : entries) {
                Check.due("entry " + e + " of an array, v " + v, Stores.find(x, 1, e), 64 + e * step);
            }
            for (int e = 0; e < 3; e++) {
                Stores.update(x, 2, 77 - e, 0, MapStore.NEW);
                Check.due("entry " + e + " of a table, v " + v, Stores.find(x, 2, 77 - e), 64 + (1000 + e) * step);
            }
        }
        MapStore y = Stores.array(16, 4096);
        Check.due("the last of 4096 entries", Stores.find(y, 0, 4095), 65520);
        MapStore z = Stores.array(256, 256);
        Check.due("the last of 256 bytes", Stores.find(z, 0, 255), 65280);
    }

    private static void arraySizes() {
        makes(MapStore.ARRAY, 4, 1, 1);
        makes(MapStore.ARRAY, 4, 256, 1);
        makes(MapStore.ARRAY, 4, 1, 4096);
        makes(MapStore.ARRAY, 4, 256, 256);
        MapStore x = new MapStore();
        int[] keys = {-4, 0, 1, 2, 3, 5, 8, 64};
        for (int k : keys) {
            refuses(x, MapStore.ARRAY, k, 8, 8);
        }
        wrongValuesAndEntries(x, MapStore.ARRAY, 4);
        for (int wild : Stores.WILD) {
            refuses(x, MapStore.ARRAY, wild, 8, 8);
        }
        Check.due("maps()", x.maps(), 0);
    }

    private static void wrongValuesAndEntries(MapStore x, int kind, int key) {
        int[] values = {-256, -1, 0, 257, 512};
        for (int v : values) {
            refuses(x, kind, key, v, 1);
        }
        int[] entries = {-4096, -1, 0, 4097, 8192};
        for (int n : entries) {
            refuses(x, kind, key, 8, n);
        }
        for (int wild : Stores.WILD) {
            refuses(x, kind, key, wild, 1);
            refuses(x, kind, key, 8, wild);
        }
    }

    private static void makes(int kind, int key, int value, int entries) {
        MapStore x = new MapStore();
        String call = "make(" + kind + ", " + key + ", " + value + ", " + entries + ")";
        Check.due(call, x.make(kind, key, value, entries), 0);
        Check.due("maps() behind " + call, x.maps(), 1);
    }

    private static void refuses(MapStore x, int kind, int key, int value, int entries) {
        String call = "make(" + kind + ", " + key + ", " + value + ", " + entries + ")";
        Check.throwsDue(call, Check.ARGUMENT, () -> x.make(kind, key, value, entries));
    }

    private static void arrayKeys() {
        MapStore x = Stores.array(8, 300);
        int[] there = {0, 1, 255, 256, 299};
        for (int e : there) {
            Check.due("entry " + e, Stores.find(x, 0, e), 8 * e);
        }
        long[] none = {300, 301, 65536, 0x01000000L, 0x7fffffffL, 0x80000000L, 0x80000001L, 0xffffffffL};
        for (long key : none) {
            Check.due("entry " + key, Stores.find(x, 0, key), MapStore.NONE);
        }
        Check.due("a fifth byte is not of the key", Stores.find(x, 0, 0x100000002L), 16);
    }

    private static void tableSizes() {
        makes(MapStore.TABLE, 1, 1, 1);
        makes(MapStore.TABLE, 64, 1, 1);
        makes(MapStore.TABLE, 1, 256, 1);
        makes(MapStore.TABLE, 1, 1, 4096);
        makes(MapStore.TABLE, 64, 256, 256);
        for (int k = 1; k <= 64; k++) {
            makes(MapStore.TABLE, k, 8, 8);
        }
        MapStore x = new MapStore();
        int[] keys = {-64, -1, 0, 65, 128};
        for (int k : keys) {
            refuses(x, MapStore.TABLE, k, 8, 8);
        }
        wrongValuesAndEntries(x, MapStore.TABLE, 8);
        for (int wild : Stores.WILD) {
            refuses(x, MapStore.TABLE, wild, 8, 8);
        }
        Check.due("maps()", x.maps(), 0);
    }

    private static void freeAtFirst() {
        MapStore x = new MapStore();
        x.store(0, 8, 7L);
        x.make(MapStore.TABLE, 8, 8, 2);
        Check.due("used", x.used(0), 0);
        Check.due("a key of zeros", Stores.find(x, 0, 0), MapStore.NONE);
        Check.due("a key as the bytes there", Stores.find(x, 0, 7), MapStore.NONE);
        Check.due("no key at all", x.next(0, MapStore.NONE, 0), MapStore.NONE);
        Check.due("remove of zeros", Stores.remove(x, 0, 0), -2);
        Check.due("the first entry is free", Stores.update(x, 0, 3, 0, MapStore.ANY), 0);
        Check.due("the last entry is free", Stores.update(x, 0, 0, 0, MapStore.ANY), 0);
        Check.due("no other is", Stores.update(x, 0, 4, 0, MapStore.ANY), -7);
        Check.due("zeros are a key", Stores.find(x, 0, 0), 8);
    }

    private static void ringSizes() {
        for (int n = 64; n <= 16384; n *= 2) {
            makes(MapStore.RING, 0, 0, n);
        }
        MapStore x = new MapStore();
        int calls = 0;
        for (int n = -70; n <= 16500; n++) {
            if (n >= 64 && n <= 16384 && (n & n - 1) == 0) {
                continue;
            }
            if (++calls % 500 == 0) {
                Check.due("maps()", x.maps(), 0);
                x = new MapStore();
            }
            refuses(x, MapStore.RING, 0, 0, n);
        }
        MapStore y = new MapStore();
        for (int shift = 15; shift < 32; shift++) {
            refuses(y, MapStore.RING, 0, 0, 1 << shift);
        }
        int[] sizes = {-1, 1, 4, 8, 64, Integer.MIN_VALUE, Integer.MAX_VALUE};
        for (int size : sizes) {
            refuses(y, MapStore.RING, size, 0, 64);
            refuses(y, MapStore.RING, 0, size, 64);
            refuses(y, MapStore.RING, size, size, 64);
        }
        for (int wild : Stores.WILD) {
            refuses(y, MapStore.RING, 0, 0, wild);
        }
        Check.due("maps()", y.maps(), 0);
    }

    private static void otherKinds() {
        MapStore x = new MapStore();
        int[] kinds = {-2, -1, 3, 4, 256};
        for (int kind : kinds) {
            refuses(x, kind, 4, 8, 64);
            refuses(x, kind, 0, 0, 64);
        }
        for (int kind : Stores.WILD) {
            refuses(x, kind, 4, 8, 64);
            refuses(x, kind, 0, 0, 64);
        }
        Check.due("maps()", x.maps(), 0);
    }

    private static void flags() {
        MapStore x = Stores.table(8, 8, 2);
        x.make(MapStore.ARRAY, 4, 8, 2);
        Check.due("THERE, the key is not", Stores.update(x, 0, 1, 10, 2), -2);
        Check.due("NEW, the key is", Stores.update(x, 0, 1, 11, 1), 0);
        Check.due("NEW, the key is not", Stores.update(x, 0, 1, 12, 1), -17);
        Check.due("the value stays", x.load(0, 8), 11);
        Check.due("THERE, the key is", Stores.update(x, 0, 1, 13, 2), 0);
        Check.due("ANY, the key is there", Stores.update(x, 0, 1, 14, 0), 0);
        Check.due("ANY, the key is new", Stores.update(x, 0, 2, 15, 0), 0);
        int[] wrong = {-2, -1, 3, 4, 5, 6, 7, 256, 257, 258};
        for (int f : wrong) {
            wrongFlags(x, f);
        }
        for (int f : Stores.WILD) {
            wrongFlags(x, f);
        }
        Check.due("the first value", x.load(0, 8), 14);
        Check.due("the second value", x.load(8, 8), 15);
        Check.due("the array", x.load(24, 8), 0);
    }

    private static void wrongFlags(MapStore x, int flags) {
        Check.due("flags " + flags + ", a table", Stores.update(x, 0, 1, 99, flags), -22);
        Check.due("flags " + flags + ", an array", Stores.update(x, 1, 1, 99, flags), -22);
    }

    private static void answers() {
        MapStore x = Stores.table(8, 8, 1);
        x.make(MapStore.ARRAY, 4, 8, 1);
        x.make(MapStore.RING, 0, 0, 64);
        Check.due("remove, no such key", Stores.remove(x, 0, 1), -2);
        Check.due("update THERE, no such key", Stores.update(x, 0, 1, 1, MapStore.THERE), -2);
        Check.due("take, no record", x.take(2, 0), -2);
        Check.due("update", Stores.update(x, 0, 1, 1, MapStore.NEW), 0);
        Check.due("the key is there", Stores.update(x, 0, 1, 1, MapStore.NEW), -17);
        Check.due("a table's key too much", Stores.update(x, 0, 2, 1, MapStore.ANY), -7);
        Check.due("an array's key too much", Stores.update(x, 1, 2, 1, MapStore.ANY), -7);
        Check.due("there is no room", x.put(2, 0, 57), -11);
        Check.due("find is not for a ring", x.find(2, 0), -22);
        Check.due("update is not for a ring", x.update(2, 0, 0, MapStore.ANY), -22);
        Check.due("remove is not for a ring", x.remove(2, 0), -22);
        Check.due("remove is not for an array", x.remove(1, 0), -22);
        for (int map = 0; map < 2; map++) {
            Check.due("put is not for map " + map, x.put(map, 0, 8), -22);
            Check.due("take is not for map " + map, x.take(map, 0), -22);
            Check.due("next is not for map " + (map + 1), x.next(map + 1, MapStore.NONE, 0), -22);
            Check.due("these flags, map " + map, x.update(map, 0, 0, 3), -22);
        }
        Check.due("this size, 0", x.put(2, 0, 0), -22);
        Check.due("this size, 257", x.put(2, 0, 257), -22);
    }

    private static void unfitFirst() {
        MapStore x = Stores.table(8, 8, 1);
        x.make(MapStore.ARRAY, 4, 8, 1);
        x.make(MapStore.RING, 0, 0, 64);
        Stores.update(x, 0, 1, 1, MapStore.NEW);
        int[] wrong = {-1, 3, 5, 6, 7};
        for (int f : wrong) {
            Check.due("flags " + f + " before -17", Stores.update(x, 0, 1, 1, f), -22);
            Check.due("flags " + f + " before -2 and -7", Stores.update(x, 0, 2, 1, f), -22);
            Check.due("flags " + f + " before -17 of an array", Stores.update(x, 1, 0, 1, f), -22);
            Check.due("flags " + f + " before -7 of an array", Stores.update(x, 1, 1, 1, f), -22);
        }
        Check.due("an array before there is no such key", Stores.remove(x, 1, 9), -22);
        x.put(2, 0, 56);
        Check.due("size 0 in a full ring", x.put(2, 0, 0), -22);
        Check.due("size 257 in a full ring", x.put(2, 0, 257), -22);
        Check.due("a right size in a full ring", x.put(2, 0, 256), -11);
        x.store(16, 4, 0L);
        Check.due("take", x.take(2, 0), -22);
        Check.due("a broken ring that is full", x.put(2, 0, 1), -22);
    }

    private static void tooMuchLast() {
        MapStore x = Stores.table(8, 8, 1);
        Stores.update(x, 0, 1, 1, MapStore.NEW);
        Check.due("a full table, NEW, the key is there", Stores.update(x, 0, 1, 1, MapStore.NEW), -17);
        Check.due("a full table, THERE, it is not", Stores.update(x, 0, 2, 1, MapStore.THERE), -2);
        Check.due("a full table, NEW, it is not", Stores.update(x, 0, 2, 1, MapStore.NEW), -7);
        Check.due("a full table, ANY, it is not", Stores.update(x, 0, 2, 1, MapStore.ANY), -7);
        Check.due("a full table, ANY, it is there", Stores.update(x, 0, 1, 1, MapStore.ANY), 0);
        Check.due("a full table, THERE, it is there", Stores.update(x, 0, 1, 1, MapStore.THERE), 0);
    }
}
