import java.util.Random;

/**
 * Every call with every combination of edge arguments, in objects of several states, beside the Model.
 * An object that a call may have changed is not used for the next combination: each meets the state
 * as it was set up.
 */
public final class EdgesTest {
    private static final int[] PLACES = {Integer.MIN_VALUE, Integer.MIN_VALUE + 1, -65536, -512, -8, -2, -1, 0, 1, 8,
        16, 255, 256, 257, 448, 449, 500, 503, 504, 505, 508, 509, 510, 511, 512, 513, 65535, 65536, 1 << 30,
        Integer.MAX_VALUE - 255, Integer.MAX_VALUE - 7, Integer.MAX_VALUE};
    private static final int[] AREA_PLACES = {Integer.MIN_VALUE, -65536, -8, -1, 0, 1, 7, 8, 24, 63, 65527, 65528,
        65529, 65531, 65532, 65533, 65534, 65535, 65536, 65537, 1 << 30, Integer.MAX_VALUE - 7, Integer.MAX_VALUE};
    private static final int[] MAPS = {Integer.MIN_VALUE, -1, 0, 1, 2, 3, 63, 64, Integer.MAX_VALUE};
    private static final int[] FLAGS = {Integer.MIN_VALUE, -1, 0, 1, 2, 3, 4, Integer.MAX_VALUE};
    private static final int[] SIZES = {Integer.MIN_VALUE, -8, -1, 0, 1, 2, 3, 4, 5, 7, 8, 9, 16, 48, 56, 57, 64, 255,
        256, 257, 512, 65536, Integer.MAX_VALUE};
    private static final int[] KINDS = {Integer.MIN_VALUE, -1, 0, 1, 2, 3, Integer.MAX_VALUE};
    private static final int[] KEYS = {Integer.MIN_VALUE, -1, 0, 1, 3, 4, 5, 63, 64, 65, Integer.MAX_VALUE};
    private static final int[] VALUES = {Integer.MIN_VALUE, -1, 0, 1, 7, 8, 9, 255, 256, 257, Integer.MAX_VALUE};
    private static final int[] ENTRIES = {Integer.MIN_VALUE, -64, -1, 0, 1, 2, 63, 64, 65, 96, 256, 257, 4095, 4096,
        4097, 8192, 16383, 16384, 16385, 32768, 1 << 30, Integer.MAX_VALUE};
    private static final int STATES = 8;
    /** The calls of counts(). */
    private static final int COUNTS = 2;

    private final int state;
    private final Random random = new Random(1);
    private Twin twin;
    private boolean same = true;

    private EdgesTest(int state) {
        this.state = state;
        renew();
    }

    public static void main(String[] args) {
        for (int state = 0; state < STATES; state++) {
            EdgesTest test = new EdgesTest(state);
            test.makes();
            test.desksAndAreas();
            for (int map : MAPS) {
                test.onMap(map);
            }
            test.renew();
        }
        Check.done();
    }

    private void makes() {
        for (int kind : KINDS) {
            for (int key : KEYS) {
                for (int value : VALUES) {
                    for (int entries : ENTRIES) {
                        told(twin.make(kind, key, value, entries));
                    }
                }
            }
        }
    }

    private void desksAndAreas() {
        for (int at : PLACES) {
            told(twin.desk(at));
            told(twin.lay(at, 0x8877665544332211L));
        }
        for (int at : AREA_PLACES) {
            for (int size : SIZES) {
                told(twin.load(at, size));
                told(twin.store(at, size, 0x8877665544332211L));
            }
        }
    }

    private void onMap(int map) {
        told(twin.begins(map));
        told(twin.used(map));
        for (int at : PLACES) {
            told(twin.find(map, at));
            told(twin.remove(map, at));
            told(twin.take(map, at));
            // A take can also change something by what goes wrong: the ring is broken from then on.
            renew();
            for (int size : SIZES) {
                told(twin.put(map, at, size));
            }
            for (int to : PLACES) {
                told(twin.next(map, at, to));
                for (int flags : FLAGS) {
                    told(twin.update(map, at, to, flags));
                }
            }
        }
    }

    /** One call more and all looks of renew must still fit into an object's calls. */
    private void told(boolean answeredTheSame) {
        same &= answeredTheSame;
        if (!same || twin.done() || twin.calls() + 1 + COUNTS + Twin.LOOKS > Twin.CALLS) {
            renew();
        }
    }

    private void renew() {
        if (twin != null && !(same && twin.counts() && twin.sameState(random))) {
            System.out.println(twin.run());
            Check.fail("in state " + state);
            Check.done();
        }
        twin = new Twin();
        setUp();
    }

    private void setUp() {
        switch (state) {
            case 0: break;
            case 1: maps(); break;
            case 2: maps(); entries(); break;
            case 3: maps(); entries(); records(); break;
            case 4: maps(); records(); brokenRecord(); break;
            case 5: maps(); records(); brokenRecord(); twin.take(2, 0); break;
            case 6: manyMaps(); break;
            default: manyMaps(); lastMaps(); break;
        }
    }

    /** A table with 3 entries, an array with 2, a ring of 64 bytes, and a desk with few keys. */
    private void maps() {
        twin.make(MapStore.TABLE, 8, 5, 3);
        twin.make(MapStore.ARRAY, 4, 9, 2);
        twin.make(MapStore.RING, 0, 0, 64);
        twin.lay(0, 1L);
        twin.lay(8, 2L);
        twin.lay(256, 0x0102030405060708L);
        twin.lay(504, 3L);
    }

    /** All entries of the table get a key, and the middle one is free again. */
    private void entries() {
        twin.update(0, 0, 256, MapStore.NEW);
        twin.update(0, 8, 255, MapStore.NEW);
        twin.update(0, 504, 0, MapStore.NEW);
        twin.remove(0, 8);
        twin.update(1, 0, 256, MapStore.THERE);
    }

    /** The ring goes round its end and is full. */
    private void records() {
        twin.put(2, 256, 32);
        twin.take(2, 300);
        twin.put(2, 256, 33);
        twin.put(2, 8, 8);
    }

    private void brokenRecord() {
        Model.Row ring = twin.model.rows.get(2);
        twin.store(ring.begin + (int) (ring.tail % 64), 4, 257L);
    }

    /** Two more maps may be made, and 72 bytes of the area are left for them. */
    private void manyMaps() {
        twin.make(MapStore.TABLE, 64, 256, 2);
        twin.make(MapStore.ARRAY, 4, 256, 219);
        twin.make(MapStore.RING, 0, 0, 8192);
        twin.make(MapStore.ARRAY, 4, 1, 29);
        for (int i = 4; i < 62; i++) {
            twin.make(MapStore.TABLE, 1, 8, 1);
        }
    }

    /** 64 maps, with 8 bytes of the area left. */
    private void lastMaps() {
        twin.make(MapStore.ARRAY, 4, 8, 1);
        twin.make(MapStore.ARRAY, 4, 56, 1);
    }
}
