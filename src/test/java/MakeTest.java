/** Promises 1 to 5: a new object, make, maps, begins, used. */
public final class MakeTest {
    public static void main(String[] args) {
        newObject();
        ordinary();
        leastAndMost();
        wrongNumbers();
        tooManyMaps();
        tooLittleArea();
        argumentBeforeState();
        areaAsItIs();
        Check.done();
    }

    private static void newObject() {
        MapStore x = new MapStore();
        Check.due("maps() of a new object", x.maps(), 0);
        Check.due("breaches() of a new object", x.breaches(), 0);
        for (int at = 0; at <= 504; at += 8) {
            Check.due("desk of a new object at " + at, x.desk(at), 0);
        }
        for (int at = 0; at < 65536; at += 256) {
            Check.due("area of a new object at " + at, x.load(at, 8), 0);
        }
        noSuchMap(x, 0);
        noSuchMap(x, -1);
    }

    private static void noSuchMap(MapStore x, int map) {
        Check.throwsDue("begins(" + map + ")", Check.BEYOND, () -> x.begins(map));
        Check.throwsDue("used(" + map + ")", Check.BEYOND, () -> x.used(map));
        Check.throwsDue("find(" + map + ", 0)", Check.BEYOND, () -> x.find(map, 0));
        Check.throwsDue("update(" + map + ", 0, 0, 0)", Check.BEYOND, () -> x.update(map, 0, 0, 0));
        Check.throwsDue("update(" + map + ", 0, 0, 9)", Check.BEYOND, () -> x.update(map, 0, 0, 9));
        Check.throwsDue("remove(" + map + ", 0)", Check.BEYOND, () -> x.remove(map, 0));
        Check.throwsDue("put(" + map + ", 0, 1)", Check.BEYOND, () -> x.put(map, 0, 1));
        Check.throwsDue("put(" + map + ", 0, 0)", Check.BEYOND, () -> x.put(map, 0, 0));
        Check.throwsDue("take(" + map + ", 0)", Check.BEYOND, () -> x.take(map, 0));
        Check.throwsDue("next(" + map + ", -1, 0)", Check.BEYOND, () -> x.next(map, -1, 0));
    }

    private static void ordinary() {
        MapStore x = new MapStore();
        Check.due("make table", x.make(MapStore.TABLE, 5, 9, 3), 0);
        Check.due("make array", x.make(MapStore.ARRAY, 4, 8, 5), 1);
        Check.due("make ring", x.make(MapStore.RING, 0, 0, 128), 2);
        Check.due("make array", x.make(MapStore.ARRAY, 4, 1, 2), 3);
        Check.due("maps()", x.maps(), 4);
        Check.due("begins(0)", x.begins(0), 0);
        Check.due("begins(1)", x.begins(1), 48);
        Check.due("begins(2)", x.begins(2), 88);
        Check.due("begins(3)", x.begins(3), 216);
        Check.due("used of a new table", x.used(0), 0);
        Check.due("used of an array", x.used(1), 5);
        Check.due("used of a new ring", x.used(2), 0);
        Check.due("used of an array", x.used(3), 2);
        noSuchMap(x, 4);
        noSuchMap(x, -1);
        noSuchMap(x, 63);
        noSuchMap(x, 64);
        noSuchMap(x, Integer.MIN_VALUE);
        noSuchMap(x, Integer.MAX_VALUE);
    }

    private static void leastAndMost() {
        makes(MapStore.ARRAY, 4, 1, 1);
        makes(MapStore.ARRAY, 4, 256, 256);
        makes(MapStore.ARRAY, 4, 16, 4096);
        makes(MapStore.TABLE, 1, 1, 1);
        makes(MapStore.TABLE, 64, 256, 256);
        makes(MapStore.TABLE, 64, 16, 4096);
        for (int n = 64; n <= 16384; n *= 2) {
            makes(MapStore.RING, 0, 0, n);
        }
    }

    private static void makes(int kind, int key, int value, int entries) {
        MapStore x = new MapStore();
        String call = "make(" + kind + ", " + key + ", " + value + ", " + entries + ")";
        Check.due(call, x.make(kind, key, value, entries), 0);
        Check.due("maps() behind " + call, x.maps(), 1);
        int bytes = kind == MapStore.RING ? entries : (value + 7) / 8 * 8 * entries;
        if (bytes <= 65536 - 64) {
            x.make(MapStore.RING, 0, 0, 64);
            Check.due("begins(1) behind " + call, x.begins(1), bytes);
        }
    }

    private static void wrongNumbers() {
        MapStore x = new MapStore();
        int[][] rows = {
            {-1, 4, 4, 4}, {3, 4, 4, 4}, {Integer.MAX_VALUE, 4, 4, 4}, {Integer.MIN_VALUE, 0, 0, 64},
            {0, 3, 4, 4}, {0, 5, 4, 4}, {0, 0, 4, 4}, {0, -4, 4, 4}, {0, 4, 0, 4}, {0, 4, -1, 4},
            {0, 4, 257, 4}, {0, 4, 4, 0}, {0, 4, 4, -1}, {0, 4, 4, 4097}, {0, 4, 4, Integer.MAX_VALUE},
            {0, 4, Integer.MAX_VALUE, 4}, {0, 4, 4, Integer.MIN_VALUE},
            {1, 0, 4, 4}, {1, -1, 4, 4}, {1, 65, 4, 4}, {1, 4, 0, 4}, {1, 4, 257, 4}, {1, 4, 4, 0},
            {1, 4, 4, 4097}, {1, Integer.MIN_VALUE, 4, 4}, {1, Integer.MAX_VALUE, 4, 4},
            {2, 1, 0, 64}, {2, 0, 1, 64}, {2, 4, 4, 64}, {2, 0, 0, 0}, {2, 0, 0, 1}, {2, 0, 0, 32},
            {2, 0, 0, 63}, {2, 0, 0, 65}, {2, 0, 0, 96}, {2, 0, 0, 16383}, {2, 0, 0, 16385},
            {2, 0, 0, 32768}, {2, 0, 0, Integer.MIN_VALUE}, {2, 0, 0, -64},
        };
        for (int[] r : rows) {
            String call = "make(" + r[0] + ", " + r[1] + ", " + r[2] + ", " + r[3] + ")";
            Check.throwsDue(call, Check.ARGUMENT, () -> x.make(r[0], r[1], r[2], r[3]));
        }
        Check.due("maps() behind wrong makes", x.maps(), 0);
        x.make(MapStore.ARRAY, 4, 8, 1);
        Check.due("begins(0) behind wrong makes", x.begins(0), 0);
    }

    private static void tooManyMaps() {
        MapStore x = new MapStore();
        for (int i = 0; i < 64; i++) {
            Check.due("make", x.make(MapStore.ARRAY, 4, 8, 1), i);
        }
        Check.throwsDue("a 65th map", Check.STATE, () -> x.make(MapStore.ARRAY, 4, 8, 1));
        Check.throwsDue("a 65th map", Check.STATE, () -> x.make(MapStore.TABLE, 4, 8, 1));
        Check.throwsDue("a 65th map", Check.STATE, () -> x.make(MapStore.RING, 0, 0, 64));
        Check.throwsDue("a wrong 65th map", Check.ARGUMENT, () -> x.make(MapStore.RING, 0, 0, 65));
        Check.due("maps()", x.maps(), 64);
        Check.due("begins(63)", x.begins(63), 63 * 8);
        noSuchMap(x, 64);
    }

    private static void tooLittleArea() {
        MapStore x = new MapStore();
        x.make(MapStore.ARRAY, 4, 16, 4095);
        Check.throwsDue("17 bytes of 16", Check.STATE, () -> x.make(MapStore.ARRAY, 4, 17, 1));
        Check.throwsDue("24 bytes of 16", Check.STATE, () -> x.make(MapStore.TABLE, 1, 1, 3));
        Check.throwsDue("64 bytes of 16", Check.STATE, () -> x.make(MapStore.RING, 0, 0, 64));
        Check.throwsDue("very many bytes of 16", Check.STATE, () -> x.make(MapStore.TABLE, 1, 256, 4096));
        Check.due("maps() behind too little area", x.maps(), 1);
        Check.due("make with the last bytes", x.make(MapStore.TABLE, 1, 1, 2), 1);
        Check.due("begins(1)", x.begins(1), 65520);
        Check.throwsDue("8 bytes of none", Check.STATE, () -> x.make(MapStore.ARRAY, 4, 1, 1));
        MapStore y = new MapStore();
        Check.throwsDue("one entry too many", Check.STATE, () -> y.make(MapStore.ARRAY, 4, 256, 257));
        for (int i = 0; i < 4; i++) {
            Check.due("make ring", y.make(MapStore.RING, 0, 0, 16384), i);
            Check.due("begins", y.begins(i), i * 16384);
        }
        Check.throwsDue("a fifth ring", Check.STATE, () -> y.make(MapStore.RING, 0, 0, 64));
    }

    private static void argumentBeforeState() {
        MapStore x = new MapStore();
        x.make(MapStore.ARRAY, 4, 16, 4096);
        Check.throwsDue("wrong, with no area", Check.ARGUMENT, () -> x.make(MapStore.ARRAY, 4, 257, 1));
        Check.throwsDue("wrong, with no area", Check.ARGUMENT, () -> x.make(MapStore.RING, 0, 0, 32768));
    }

    private static void areaAsItIs() {
        MapStore x = new MapStore();
        x.store(8, 8, 1234567L);
        x.make(MapStore.ARRAY, 4, 8, 2);
        Check.due("what stood there before the map", x.load(8, 8), 1234567L);
        x.store(16, 8, 77L);
        x.make(MapStore.TABLE, 4, 8, 2);
        x.make(MapStore.RING, 0, 0, 64);
        Check.due("what stood there before the map", x.load(16, 8), 77L);
        Check.due("used of a table over stored bytes", x.used(1), 0);
    }
}
