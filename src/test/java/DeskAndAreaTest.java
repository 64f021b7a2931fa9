/** Promises 6 to 9: desk, lay, load, store. */
public final class DeskAndAreaTest {
    private static final long ODD = 0x8877665544332211L;

    public static void main(String[] args) {
        desk();
        deskEdges();
        loads();
        stores();
        areaEdges();
        wrongSizes();
        apart();
        Check.done();
    }

    private static void desk() {
        MapStore x = new MapStore();
        x.lay(3, ODD);
        Check.due("desk(3)", x.desk(3), ODD);
        Check.due("desk(0)", x.desk(0), 0x5544332211000000L);
        Check.due("desk(8)", x.desk(8), 0x887766L);
        x.lay(4, 0L);
        Check.due("desk(3)", x.desk(3), 0x11L);
        x.lay(100, -1L);
        Check.due("desk(100)", x.desk(100), -1L);
        Check.due("desk(99)", x.desk(99), -256L);
        Check.due("desk(101)", x.desk(101), 0xffffffffffffffL);
    }

    private static void deskEdges() {
        MapStore x = new MapStore();
        x.lay(0, 5L);
        x.lay(504, ODD);
        Check.due("desk(0)", x.desk(0), 5L);
        Check.due("desk(504)", x.desk(504), ODD);
        int[] beyond = {-1, -8, 505, 511, 512, 513, 65536, Integer.MAX_VALUE, Integer.MAX_VALUE - 7,
            Integer.MIN_VALUE};
        for (int at : beyond) {
            Check.throwsDue("desk(" + at + ")", Check.BEYOND, () -> x.desk(at));
            Check.throwsDue("lay(" + at + ", -1)", Check.BEYOND, () -> x.lay(at, -1L));
        }
        Check.due("desk(0) behind lays that threw", x.desk(0), 5L);
        Check.due("desk(504) behind lays that threw", x.desk(504), ODD);
    }

    private static void loads() {
        MapStore x = new MapStore();
        x.store(1, 8, ODD);
        Check.due("load(1, 1)", x.load(1, 1), 0x11L);
        Check.due("load(8, 1) has no sign", x.load(8, 1), 0x88L);
        Check.due("load(1, 2)", x.load(1, 2), 0x2211L);
        Check.due("load(7, 2) has no sign", x.load(7, 2), 0x8877L);
        Check.due("load(1, 4)", x.load(1, 4), 0x44332211L);
        Check.due("load(5, 4) has no sign", x.load(5, 4), 0x88776655L);
        Check.due("load(1, 8)", x.load(1, 8), ODD);
        Check.due("load(0, 8)", x.load(0, 8), 0x7766554433221100L);
    }

    private static void stores() {
        MapStore x = new MapStore();
        x.store(16, 8, -1L);
        x.store(17, 1, 0x1234L);
        Check.due("a byte stored", x.load(16, 8), 0xffffffffffff34ffL);
        x.store(19, 2, ODD);
        Check.due("two bytes stored", x.load(16, 8), 0xffffff2211ff34ffL);
        x.store(20, 4, 0L);
        Check.due("four bytes stored", x.load(16, 8), 0x0000000011ff34ffL);
        x.store(20, 8, ODD);
        Check.due("eight bytes stored", x.load(20, 8), ODD);
        Check.due("those before them", x.load(16, 4), 0x11ff34ffL);
        Check.due("those behind them", x.load(28, 8), 0L);
    }

    private static void areaEdges() {
        MapStore x = new MapStore();
        for (int size = 1; size <= 8; size *= 2) {
            int s = size;
            x.store(65536 - s, s, ODD);
            Check.due("load the last " + s, x.load(65536 - s, s), s == 8 ? ODD : ODD & (1L << 8 * s) - 1);
            x.store(0, s, 3L);
            Check.due("load the first " + s, x.load(0, s), 3L);
            int[] beyond = {-1, -s, 65536 - s + 1, 65536, 65537, Integer.MAX_VALUE, Integer.MIN_VALUE};
            for (int at : beyond) {
                Check.throwsDue("load(" + at + ", " + s + ")", Check.BEYOND, () -> x.load(at, s));
                Check.throwsDue("store(" + at + ", " + s + ", 0)", Check.BEYOND, () -> x.store(at, s, 0L));
            }
            Check.due("the last " + s, x.load(65536 - s, s), s == 8 ? ODD : ODD & (1L << 8 * s) - 1);
        }
    }

    private static void wrongSizes() {
        MapStore x = new MapStore();
        int[] sizes = {0, -1, -8, 3, 5, 6, 7, 9, 16, Integer.MAX_VALUE, Integer.MIN_VALUE};
        int[] places = {0, -1, 65535, 65536, Integer.MIN_VALUE};
        for (int size : sizes) {
            for (int at : places) {
                Check.throwsDue("load(" + at + ", " + size + ")", Check.ARGUMENT, () -> x.load(at, size));
                Check.throwsDue("store(" + at + ", " + size + ", 7)", Check.ARGUMENT,
                        () -> x.store(at, size, 7L));
            }
        }
        Check.due("the area behind wrong stores", x.load(0, 8), 0L);
        Check.due("the area behind wrong stores", x.load(65528, 8), 0L);
    }

    private static void apart() {
        MapStore x = new MapStore();
        MapStore y = new MapStore();
        x.lay(0, 1L);
        x.store(0, 8, 2L);
        Check.due("the desk is not the area", x.desk(0), 1L);
        Check.due("another object's desk", y.desk(0), 0L);
        Check.due("another object's area", y.load(0, 8), 0L);
    }
}
