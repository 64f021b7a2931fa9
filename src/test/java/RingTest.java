/** Promises 13 and 14, and 5 for rings; what is not for rings. */
public final class RingTest {
    public static void main(String[] args) {
        recordsInTheArea();
        goingRound();
        fullToTheLastByte();
        sizes();
        putBeyondTheDesk();
        takeBeyondTheDesk();
        bytesAlone();
        takenByWhatStands();
        brokenBySize();
        brokenBeyondHead();
        brokenOnlyWhenTaken();
        ringsApart();
        longUse();
        notForRings();
        Check.done();
    }

    private static MapStore withRing(int bytes) {
        MapStore x = new MapStore();
        x.make(MapStore.ARRAY, 4, 8, 2);
        x.make(MapStore.RING, 0, 0, bytes);
        return x;
    }

    private static void recordsInTheArea() {
        MapStore x = withRing(64);
        for (int at = 16; at < 80; at += 8) {
            x.store(at, 8, -1L);
        }
        x.lay(0, 0x8877665544332211L);
        Check.due("put", x.put(1, 1, 3), 0);
        Check.due("used", x.used(1), 16);
        Check.due("size and count", x.load(16, 8), 3L);
        Check.due("bytes and zeros", x.load(24, 8), 0x443322L);
        Check.due("none behind", x.load(32, 8), -1L);
        Check.due("none before", x.load(8, 8), 0L);
        Check.due("put", x.put(1, 0, 8), 0);
        Check.due("used", x.used(1), 32);
        Check.due("size and count", x.load(32, 8), 1L << 32 | 8);
        Check.due("bytes", x.load(40, 8), 0x8877665544332211L);
        Check.due("none behind", x.load(48, 8), -1L);
        Check.due("take", x.take(1, 100), 3);
        Check.due("its bytes", x.desk(100), 0x443322L);
        Check.due("used", x.used(1), 16);
        Check.due("the area stays", x.load(16, 8), 3L);
        Check.due("take", x.take(1, 100), 8);
        Check.due("its bytes", x.desk(100), 0x8877665544332211L);
        Check.due("used", x.used(1), 0);
        Check.due("take of none", x.take(1, 100), -2);
        Check.due("put", x.put(1, 0, 1), 0);
        Check.due("the count goes on", x.load(48, 8), 2L << 32 | 1);
    }

    private static void goingRound() {
        MapStore x = withRing(64);
        x.make(MapStore.ARRAY, 4, 8, 2);
        x.lay(0, 0x0807060504030201L);
        x.lay(8, 0x100f0e0d0c0b0a09L);
        x.lay(16, 0x1817161514131211L);
        x.put(1, 0, 24);
        x.put(1, 0, 16);
        Check.due("take", x.take(1, 100), 24);
        Check.due("put over the ring's end", x.put(1, 0, 18), 0);
        Check.due("its header", x.load(16 + 56, 8), 2L << 32 | 18);
        Check.due("its bytes at the ring's beginning", x.load(16, 8), 0x0807060504030201L);
        Check.due("its bytes", x.load(24, 8), 0x100f0e0d0c0b0a09L);
        Check.due("its bytes and zeros", x.load(32, 8), 0x1211L);
        Check.due("nothing behind the ring", x.load(80, 8), 0L);
        Check.due("take", x.take(1, 100), 16);
        Check.due("take over the ring's end", x.take(1, 200), 18);
        Check.due("its bytes", x.desk(200), 0x0807060504030201L);
        Check.due("its bytes", x.desk(208), 0x100f0e0d0c0b0a09L);
        Check.due("its bytes", x.desk(216), 0x1211L);
        Check.due("used", x.used(1), 0);
    }

    private static void fullToTheLastByte() {
        MapStore x = withRing(64);
        Check.due("put 48", x.put(1, 0, 48), 0);
        Check.due("used", x.used(1), 56);
        Check.due("no room", x.put(1, 0, 1), -11);
        Check.due("take", x.take(1, 0), 48);
        Check.due("put 56", x.put(1, 0, 56), 0);
        Check.due("used", x.used(1), 64);
        Check.due("no room", x.put(1, 0, 1), -11);
        Check.due("used", x.used(1), 64);
        Check.due("take", x.take(1, 0), 56);
        Check.due("57 are too many", x.put(1, 0, 57), -11);
        Check.due("256 are too many", x.put(1, 0, 256), -11);
        Check.due("what had no room is not counted", x.put(1, 0, 1), 0);
        Check.due("the count", x.load(16 + 56, 8), 2L << 32 | 1);
    }

    private static void sizes() {
        MapStore x = withRing(16384);
        int head = 0;
        for (int s = 1; s <= 256; s += 15) {
            Check.due("put " + s, x.put(1, 0, s), 0);
            Check.due("size", x.load(16 + head, 4), s);
            head += 8 + (s + 7) / 8 * 8;
            Check.due("used", x.used(1), head);
        }
        int[] wrong = {0, -1, 257, Integer.MAX_VALUE, Integer.MIN_VALUE};
        int[] places = {0, -1, 512, Integer.MAX_VALUE, Integer.MIN_VALUE};
        for (int s : wrong) {
            for (int at : places) {
                Check.due("put " + s + " at " + at, x.put(1, at, s), -22);
            }
        }
        Check.due("used", x.used(1), head);
    }

    private static void putBeyondTheDesk() {
        MapStore x = withRing(512);
        Check.due("put at the edge", x.put(1, 256, 256), 0);
        Check.due("put at the edge", x.put(1, 511, 1), 0);
        int before = x.used(1);
        int[] one = {-1, 512, 513, Integer.MAX_VALUE, Integer.MIN_VALUE};
        for (int at : one) {
            Check.throwsDue("put 1 at " + at, Check.BEYOND, () -> x.put(1, at, 1));
        }
        Check.throwsDue("put 256 at 257", Check.BEYOND, () -> x.put(1, 257, 256));
        Check.due("used", x.used(1), before);
        MapStore y = withRing(64);
        y.put(1, 0, 48);
        Check.throwsDue("without room too", Check.BEYOND, () -> y.put(1, 512, 8));
    }

    private static void takeBeyondTheDesk() {
        MapStore x = withRing(64);
        int[] places = {-1, 508, 512, Integer.MAX_VALUE, Integer.MIN_VALUE};
        for (int at : places) {
            Check.due("take of none at " + at, x.take(1, at), -2);
        }
        x.lay(0, 0x0504030201L);
        x.put(1, 0, 5);
        for (int at : places) {
            Check.throwsDue("take at " + at, Check.BEYOND, () -> x.take(1, at));
        }
        Check.due("the record stays", x.used(1), 16);
        Check.due("the desk stays", x.desk(504), 0L);
        Check.due("take at the edge", x.take(1, 507), 5);
        Check.due("its bytes", x.desk(504), 0x0504030201000000L);
    }

    private static void bytesAlone() {
        MapStore x = withRing(64);
        x.lay(0, 0x030201L);
        x.put(1, 0, 3);
        x.lay(96, -1L);
        x.lay(104, -1L);
        Check.due("take", x.take(1, 101), 3);
        Check.due("before and first bytes", x.desk(96), 0x030201ffffffffffL);
        Check.due("behind", x.desk(104), -1L);
    }

    private static void takenByWhatStands() {
        MapStore x = withRing(128);
        x.lay(0, 0x0807060504030201L);
        x.lay(8, 0x0000000a00000002L);
        x.put(1, 0, 16);
        x.put(1, 0, 8);
        x.store(16 + 8, 1, 0x77L);
        x.store(16, 4, 8L);
        Check.due("a smaller size", x.take(1, 100), 8);
        Check.due("bytes as they stand", x.desk(100), 0x0807060504030277L);
        Check.due("used", x.used(1), 24);
        Check.due("a record that begins in a record", x.take(1, 100), 2);
        Check.due("used", x.used(1), 8);
        Check.due("beyond HEAD now", x.take(1, 100), -22);
        Check.due("used stays", x.used(1), 8);
        MapStore y = withRing(128);
        y.put(1, 0, 8);
        y.put(1, 0, 8);
        y.store(16, 4, 24L);
        y.store(20, 4, -1L);
        Check.due("a larger size, up to HEAD", y.take(1, 100), 24);
        Check.due("used", y.used(1), 0);
        Check.due("none", y.take(1, 100), -2);
    }

    private static void brokenBySize() {
        long[] wrong = {0, 257, 0x80000000L, 0xffffffffL, 0x80000001L, 0x100000L};
        for (long s : wrong) {
            MapStore x = withRing(1024);
            x.put(1, 0, 200);
            x.put(1, 0, 200);
            x.put(1, 0, 8);
            x.store(16, 4, s);
            Check.due("take with size " + s, x.take(1, 0), -22);
            staysBroken(x, 208 * 2 + 16);
            x.store(16, 4, 200L);
            staysBroken(x, 208 * 2 + 16);
        }
    }

    private static void staysBroken(MapStore x, int used) {
        Check.due("take of a broken ring", x.take(1, 0), -22);
        Check.due("take beyond the desk", x.take(1, 600), -22);
        Check.due("put into a broken ring", x.put(1, 0, 1), -22);
        Check.due("put of a wrong size", x.put(1, 0, 0), -22);
        Check.throwsDue("put beyond the desk", Check.BEYOND, () -> x.put(1, 512, 1));
        Check.due("used", x.used(1), used);
    }

    private static void brokenBeyondHead() {
        MapStore x = withRing(64);
        x.put(1, 0, 5);
        x.store(16, 4, 9L);
        Check.due("take beyond HEAD, and beyond the desk", x.take(1, 600), -22);
        staysBroken(x, 16);
        MapStore y = withRing(64);
        y.put(1, 0, 5);
        y.store(16, 4, 8L);
        Check.due("within what it took", y.take(1, 0), 8);
        MapStore z = withRing(64);
        z.put(1, 0, 56);
        z.store(16, 4, 256L);
        Check.due("more than the ring", z.take(1, 0), -22);
        staysBroken(z, 64);
    }

    private static void brokenOnlyWhenTaken() {
        MapStore x = withRing(64);
        x.put(1, 0, 5);
        x.store(16, 4, 0L);
        Check.due("put before it is taken", x.put(1, 0, 1), 0);
        x.store(16, 4, 5L);
        Check.due("mended in time", x.take(1, 0), 5);
        Check.due("take", x.take(1, 0), 1);
        MapStore y = withRing(64);
        y.put(1, 0, 5);
        Check.throwsDue("a take that throws", Check.BEYOND, () -> y.take(1, 510));
        Check.due("does not break", y.take(1, 0), 5);
    }

    private static void ringsApart() {
        MapStore x = withRing(64);
        x.make(MapStore.RING, 0, 0, 64);
        x.put(1, 0, 8);
        x.put(1, 0, 8);
        x.put(2, 0, 4);
        Check.due("a ring's own count", x.load(80, 8), 4L);
        x.store(16, 4, 0L);
        Check.due("one is broken", x.take(1, 0), -22);
        Check.due("the other is not", x.take(2, 0), 4);
    }

    private static void longUse() {
        MapStore x = withRing(64);
        for (int i = 0; i < 100; i++) {
            x.lay(0, i * 0x0101010101010101L);
            int size = 1 + i * 7 % 40;
            Check.due("put " + i, x.put(1, 0, size), 0);
            x.lay(100, 0L);
            Check.due("take " + i, x.take(1, 100), size);
            Check.due("its first byte", x.desk(100) & 255, i & 255);
        }
    }

    private static void notForRings() {
        MapStore x = withRing(64);
        int[] places = {0, 512, 600, -1, Integer.MIN_VALUE, Integer.MAX_VALUE};
        for (int at : places) {
            Check.due("find at " + at, x.find(1, at), -22);
            Check.due("update with a key at " + at, x.update(1, at, 0, 0), -22);
            Check.due("update with a value at " + at, x.update(1, 0, at, 0), -22);
            Check.due("update with wrong flags", x.update(1, at, at, 7), -22);
            Check.due("remove at " + at, x.remove(1, at), -22);
            Check.due("next of " + at, x.next(1, at, 0), -22);
            Check.due("next to " + at, x.next(1, 0, at), -22);
        }
        Check.due("used", x.used(1), 0);
    }
}
