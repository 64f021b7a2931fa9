/** The sentences on exceptions. */
final class SaysThrows {
    private SaysThrows() {
    }

    static void run() {
        Sentence.ofTerms("A call that throws changes nothing");
        nothingChanges();
        noMapIsMade();
        Sentence.ofTerms("of several exceptions IllegalArgumentException is thrown.");
        argumentFirst();
        Sentence.ofTerms("IndexOutOfBoundsException: there is no such map, or a byte goes beyond the desk or the"
                + " area.");
        noSuchMap();
        beyondTheDesk();
        beyondTheArea();
        Sentence.ofTerms("IllegalArgumentException: a number is not as said.");
        numbersNotAsSaid();
        Sentence.ofTerms("IllegalStateException: there would be too many maps, or too little area.");
        tooMany();
        tooLittle();
    }

    /** Two objects with the same calls, but for those that throw, must answer the same from then on. */
    private static void nothingChanges() {
        MapStore x = filled();
        MapStore y = filled();
        callsThatThrow(x);
        Check.due("maps()", x.maps(), y.maps());
        for (int map = 0; map < 3; map++) {
            Check.due("used(" + map + ")", x.used(map), y.used(map));
            Check.due("begins(" + map + ")", x.begins(map), y.begins(map));
        }
        Stores.sameDesk("behind calls that throw", x, Stores.wholeDesk(y));
        for (int at = 0; at < 192; at += 8) {
            Check.due("area at " + at, x.load(at, 8), y.load(at, 8));
        }
        Check.due("the area's end", x.load(65528, 8), y.load(65528, 8));
        Check.due("next", x.next(0, MapStore.NONE, 300), y.next(0, MapStore.NONE, 300));
        Check.due("next", x.next(0, 300, 300), y.next(0, 300, 300));
        Check.due("update", x.update(0, 40, 0, MapStore.NEW), y.update(0, 40, 0, MapStore.NEW));
        Check.due("its place", x.find(0, 40), y.find(0, 40));
        Check.due("put", x.put(2, 0, 3), y.put(2, 0, 3));
        Check.due("its header", x.load(x.begins(2) + 16, 8), y.load(y.begins(2) + 16, 8));
        Check.due("take", x.take(2, 400), y.take(2, 400));
        Check.due("its bytes", x.desk(400), y.desk(400));
        Check.due("breaches()", x.breaches(), 0);
    }

    private static MapStore filled() {
        MapStore x = Stores.table(8, 8, 5);
        x.make(MapStore.ARRAY, 4, 8, 5);
        x.make(MapStore.RING, 0, 0, 64);
        Stores.layRow(x, 0, 0, 512);
        x.update(0, 0, 8, MapStore.NEW);
        x.update(0, 16, 8, MapStore.NEW);
        x.update(0, 24, 8, MapStore.NEW);
        x.remove(0, 16);
        x.lay(504, 3L << 32);
        x.update(1, 508, 8, MapStore.ANY);
        x.put(2, 100, 7);
        x.store(65528, 8, 99L);
        return x;
    }

    private static void callsThatThrow(MapStore x) {
        int[] beyond = {-9, 510, 512, Integer.MIN_VALUE, Integer.MAX_VALUE};
        for (int at : beyond) {
            Check.throwsDue("desk", Check.BEYOND, () -> x.desk(at));
            Check.throwsDue("lay", Check.BEYOND, () -> x.lay(at, -1L));
            Check.throwsDue("find", Check.BEYOND, () -> x.find(0, at));
            Check.throwsDue("find", Check.BEYOND, () -> x.find(1, at));
            for (int map = 0; map < 2; map++) {
                int m = map;
                Check.throwsDue("update, key", Check.BEYOND, () -> x.update(m, at, 0, MapStore.ANY));
                Check.throwsDue("update, value", Check.BEYOND, () -> x.update(m, 0, at, MapStore.ANY));
                Check.throwsDue("update, new key", Check.BEYOND, () -> x.update(m, 48, at, MapStore.NEW));
                Check.throwsDue("update, both", Check.BEYOND, () -> x.update(m, at, at, MapStore.ANY));
            }
            Check.throwsDue("remove", Check.BEYOND, () -> x.remove(0, at));
            Check.throwsDue("put", Check.BEYOND, () -> x.put(2, at, 7));
            Check.throwsDue("take", Check.BEYOND, () -> x.take(2, at));
            Check.throwsDue("next of", Check.BEYOND, () -> x.next(0, at, 0));
            Check.throwsDue("next to", Check.BEYOND, () -> x.next(0, MapStore.NONE, at));
        }
        Check.throwsDue("store, partly inside", Check.BEYOND, () -> x.store(65529, 8, -1L));
        Check.throwsDue("store, partly inside", Check.BEYOND, () -> x.store(-1, 8, -1L));
        Check.throwsDue("store, a size of 3", Check.ARGUMENT, () -> x.store(0, 3, -1L));
        Check.throwsDue("make, a wrong key", Check.ARGUMENT, () -> x.make(MapStore.ARRAY, 5, 8, 8));
        Check.throwsDue("make, too much", Check.STATE, () -> x.make(MapStore.ARRAY, 4, 256, 256));
        Check.throwsDue("no such map", Check.BEYOND, () -> x.put(3, 0, 7));
    }

    private static void noMapIsMade() {
        MapStore x = Stores.array(8, 3);
        Check.throwsDue("too little area", Check.STATE, () -> x.make(MapStore.TABLE, 1, 256, 256));
        Check.throwsDue("a wrong number", Check.ARGUMENT, () -> x.make(MapStore.TABLE, 0, 8, 8));
        Check.due("maps()", x.maps(), 1);
        Check.due("the next one", x.make(MapStore.RING, 0, 0, 64), 1);
        Check.due("begins where the area was given up to", x.begins(1), 24);
    }

    private static void argumentFirst() {
        MapStore x = Stores.array(256, 256);
        Check.throwsDue("no area, a wrong kind", Check.ARGUMENT, () -> x.make(3, 4, 8, 8));
        Check.throwsDue("no area, a wrong key", Check.ARGUMENT, () -> x.make(MapStore.TABLE, 65, 8, 8));
        Check.throwsDue("no area, a wrong value", Check.ARGUMENT, () -> x.make(MapStore.ARRAY, 4, 257, 4096));
        Check.throwsDue("no area, wrong entries", Check.ARGUMENT, () -> x.make(MapStore.RING, 0, 0, 32768));
        MapStore y = new MapStore();
        for (int i = 0; i < 64; i++) {
            y.make(MapStore.ARRAY, 4, 8, 1);
        }
        Check.throwsDue("64 maps, a wrong kind", Check.ARGUMENT, () -> y.make(-1, 4, 8, 1));
        Check.throwsDue("64 maps, wrong entries", Check.ARGUMENT, () -> y.make(MapStore.ARRAY, 4, 8, 0));
        Check.throwsDue("64 maps, a wrong ring", Check.ARGUMENT, () -> y.make(MapStore.RING, 0, 0, 65));
        int[] sizes = {Integer.MIN_VALUE, -1, 0, 3, 5, 6, 7, 9, Integer.MAX_VALUE};
        int[] beyond = {Integer.MIN_VALUE, -1, 65535, 65536, Integer.MAX_VALUE};
        for (int size : sizes) {
            for (int at : beyond) {
                String call = "(" + at + ", " + size + ")";
                Check.throwsDue("load" + call, Check.ARGUMENT, () -> x.load(at, size));
                Check.throwsDue("store" + call, Check.ARGUMENT, () -> x.store(at, size, 1L));
            }
        }
    }

    private static void noSuchMap() {
        MapStore x = Stores.table(8, 8, 2);
        x.make(MapStore.ARRAY, 4, 8, 2);
        x.make(MapStore.RING, 0, 0, 64);
        MapStore none = new MapStore();
        int[] near = {-1, 3, 4, 63, 64, 65};
        for (int map : near) {
            noMap(x, map);
            noMap(none, map);
        }
        for (int map : Stores.WILD) {
            noMap(x, map);
            noMap(none, map);
        }
        noMap(none, 0);
    }

    private static void noMap(MapStore x, int map) {
        Check.throwsDue("begins(" + map + ")", Check.BEYOND, () -> x.begins(map));
        Check.throwsDue("used(" + map + ")", Check.BEYOND, () -> x.used(map));
        Check.throwsDue("find(" + map + ", 0)", Check.BEYOND, () -> x.find(map, 0));
        Check.throwsDue("update(" + map + ", 0, 0, 0)", Check.BEYOND, () -> x.update(map, 0, 0, 0));
        Check.throwsDue("update(" + map + ", 0, 0, 3)", Check.BEYOND, () -> x.update(map, 0, 0, 3));
        Check.throwsDue("remove(" + map + ", 0)", Check.BEYOND, () -> x.remove(map, 0));
        Check.throwsDue("put(" + map + ", 0, 8)", Check.BEYOND, () -> x.put(map, 0, 8));
        Check.throwsDue("put(" + map + ", 0, 0)", Check.BEYOND, () -> x.put(map, 0, 0));
        Check.throwsDue("take(" + map + ", 0)", Check.BEYOND, () -> x.take(map, 0));
        Check.throwsDue("next(" + map + ", -1, 0)", Check.BEYOND, () -> x.next(map, MapStore.NONE, 0));
    }

    private static void beyondTheDesk() {
        MapStore x = Stores.table(64, 256, 2);
        x.make(MapStore.ARRAY, 4, 256, 2);
        x.make(MapStore.RING, 0, 0, 512);
        Check.due("key and value to the desk's end", x.update(0, 448, 256, MapStore.ANY), 0);
        Check.due("an array's key and value to the end", x.update(1, 508, 256, MapStore.ANY), 0);
        Check.due("a record to the desk's end", x.put(2, 256, 256), 0);
        Check.throwsDue("a table's key, one byte", Check.BEYOND, () -> x.update(0, 449, 256, MapStore.ANY));
        Check.throwsDue("a table's value, one byte", Check.BEYOND, () -> x.update(0, 448, 257, MapStore.ANY));
        Check.throwsDue("an array's key, one byte", Check.BEYOND, () -> x.update(1, 509, 256, MapStore.ANY));
        Check.throwsDue("an array's value, one byte", Check.BEYOND, () -> x.update(1, 508, 257, MapStore.ANY));
        Check.throwsDue("a record, one byte", Check.BEYOND, () -> x.put(2, 257, 256));
        Check.throwsDue("a record taken, one byte", Check.BEYOND, () -> x.take(2, 257));
        Check.due("a record taken to the desk's end", x.take(2, 256), 256);
        Check.throwsDue("eight bytes read, one byte", Check.BEYOND, () -> x.desk(505));
        Check.throwsDue("eight bytes laid, one byte", Check.BEYOND, () -> x.lay(505, 0L));
        Check.throwsDue("one byte before", Check.BEYOND, () -> x.update(0, -1, 0, MapStore.ANY));
        Check.throwsDue("one byte before", Check.BEYOND, () -> x.update(0, 0, -1, MapStore.ANY));
        Check.throwsDue("one byte before", Check.BEYOND, () -> x.put(2, -1, 1));
    }

    private static void beyondTheArea() {
        MapStore x = new MapStore();
        for (int size = 1; size <= 8; size *= 2) {
            int s = size;
            Check.due("the last " + s, x.load(65536 - s, s), 0);
            Check.throwsDue("load, one byte", Check.BEYOND, () -> x.load(65537 - s, s));
            Check.throwsDue("store, one byte", Check.BEYOND, () -> x.store(65537 - s, s, 1L));
            Check.throwsDue("load, one byte before", Check.BEYOND, () -> x.load(-1, s));
            Check.throwsDue("store, one byte before", Check.BEYOND, () -> x.store(-1, s, 1L));
        }
    }

    private static void numbersNotAsSaid() {
        MapStore x = new MapStore();
        Check.throwsDue("a kind", Check.ARGUMENT, () -> x.make(3, 4, 8, 8));
        Check.throwsDue("an array's key", Check.ARGUMENT, () -> x.make(MapStore.ARRAY, 8, 8, 8));
        Check.throwsDue("a table's key", Check.ARGUMENT, () -> x.make(MapStore.TABLE, 0, 8, 8));
        Check.throwsDue("a value", Check.ARGUMENT, () -> x.make(MapStore.TABLE, 8, 0, 8));
        Check.throwsDue("the entries", Check.ARGUMENT, () -> x.make(MapStore.TABLE, 8, 8, 4097));
        Check.throwsDue("a ring's bytes", Check.ARGUMENT, () -> x.make(MapStore.RING, 0, 0, 96));
        Check.throwsDue("a size to load", Check.ARGUMENT, () -> x.load(0, 3));
        Check.throwsDue("a size to store", Check.ARGUMENT, () -> x.store(0, 16, 1L));
    }

    private static void tooMany() {
        MapStore x = new MapStore();
        for (int i = 0; i < 63; i++) {
            x.make(MapStore.TABLE, 1, 1, 1);
        }
        Check.due("the 64th", x.make(MapStore.TABLE, 1, 1, 1), 63);
        Check.throwsDue("the 65th", Check.STATE, () -> x.make(MapStore.TABLE, 1, 1, 1));
        Check.throwsDue("again", Check.STATE, () -> x.make(MapStore.TABLE, 1, 1, 1));
    }

    private static void tooLittle() {
        MapStore x = Stores.table(1, 8, 4096);
        x.make(MapStore.ARRAY, 4, 8, 4095);
        Check.throwsDue("16 bytes of 8", Check.STATE, () -> x.make(MapStore.ARRAY, 4, 8, 2));
        Check.throwsDue("16 bytes of 8", Check.STATE, () -> x.make(MapStore.ARRAY, 4, 9, 1));
        Check.throwsDue("64 bytes of 8", Check.STATE, () -> x.make(MapStore.RING, 0, 0, 64));
        Check.due("8 bytes of 8", x.make(MapStore.ARRAY, 4, 8, 1), 2);
        Check.throwsDue("8 bytes of 0", Check.STATE, () -> x.make(MapStore.ARRAY, 4, 1, 1));
        Check.due("maps()", x.maps(), 3);
    }
}
