/** The sentences on rings. */
final class SaysRing {
    private SaysRing() {
    }

    static void run() {
        Sentence.ofTerms("THE RING has a HEAD and a TAIL, counts that never come back, at first 0; the byte with the"
                + " count c stands at c modulo n.");
        atFirst();
        roundAndRound(64);
        roundAndRound(128);
        everyWayRound();
        Sentence.ofTerms("To put in a RECORD of s bytes (1 .. 256): it takes 8 and s bytes, filled up to a number"
                + " that 8 divides");
        whatARecordTakes();
        wrongSizes();
        Sentence.ofTerms("-11 if HEAD - TAIL and this are more than n.");
        roomToTheLastByte();
        noRoomInAnEmptyRing();
        noRoomAcrossTheEnd();
        Sentence.ofTerms("From HEAD on stand then: s (4 bytes), how many records there were before, in this ring (4"
                + " bytes, going round), the bytes, and 0 where it is filled up; HEAD grows.");
        everyByteOfARecord();
        countsAllRecords();
        countsOfMoreThanAByte();
        Sentence.ofTerms("To take one: if HEAD is not TAIL, the record at TAIL is written onto the desk, its bytes"
                + " alone");
        oldestFirst();
        bytesAlone();
        Sentence.ofTerms("TAIL grows by what it takes by its s as it stands there; its s is answered");
        smallerByAProgram();
        largerByAProgram();
        Sentence.ofTerms("else -2.");
        empty();
        Sentence.ofTerms("(What programs write into the area may change a record; if its s, as it stands there, is"
                + " not 1 .. 256, or would go beyond HEAD, the ring is BROKEN, when it would be taken");
        changedByPrograms();
        brokenBySize();
        brokenBeyondHead();
        brokenAcrossTheEnd();
        notBrokenBeforeItIsTaken();
        Sentence.ofTerms("-22, then and for ever, for both.)");
        brokenForEver();
        othersAreNotBroken();
    }

    private static void atFirst() {
        MapStore x = Stores.ring(64);
        Check.due("HEAD - TAIL", x.used(0), 0);
        x.put(0, 0, 1);
        Check.due("the first record stands at 0", x.load(0, 8), 1);
    }

    /** The test's own count goes far beyond n, and tells where each header must stand. */
    private static void roundAndRound(int n) {
        MapStore x = Stores.array(8, 1);
        x.make(MapStore.RING, 0, 0, n);
        int head = 0;
        for (int i = 0; i < 100; i++) {
            int size = 1 + i * 13 % 48;
            x.lay(0, i + 1);
            Check.due("put " + i, x.put(1, 0, size), 0);
            Check.due("header " + i, x.load(8 + head % n, 8), (long) i << 32 | size);
            Check.due("take " + i, x.take(1, 100), size);
            Check.due("byte " + i, Stores.deskByte(x, 100), i + 1);
            head += 8 + Stores.filledUp(size);
        }
        Check.due("the bytes before the ring", x.load(0, 8), 0);
        Check.due("the bytes behind the ring", x.load(8 + n, 8), 0);
    }

    /** A record of 24 bytes that begins at each place of a ring of 64 bytes. */
    private static void everyWayRound() {
        for (int begin = 0; begin < 64; begin += 8) {
            MapStore x = Stores.ring(64);
            x.make(MapStore.ARRAY, 4, 8, 1);
            int head = 64 + begin;
            bringTo(x, head);
            Stores.layRow(x, 0, 1, 24);
            Check.due("put at " + head, x.put(0, 0, 21), 0);
            Check.due("its size", x.load(head % 64, 4), 21);
            for (int i = 0; i < 24; i++) {
                Check.due("byte " + i + " from " + head, x.load((head + 8 + i) % 64, 1), i < 21 ? i + 1 : 0);
            }
            Check.due("behind the ring", x.load(64, 8), 0);
            Check.due("take", x.take(0, 100), 21);
            for (int i = 0; i < 21; i++) {
                Check.due("byte " + i + " taken", Stores.deskByte(x, 100 + i), i + 1);
            }
        }
    }

    /** HEAD and TAIL of a new ring of 64 bytes come to stand at a count of 64 or more. */
    private static void bringTo(MapStore x, int count) {
        int head = 0;
        while (head < count) {
            int takes = count - head > 64 ? 32 : count - head;
            Check.due("put", x.put(0, 0, takes - 8), 0);
            Check.due("take", x.take(0, 0), takes - 8);
            head += takes;
        }
    }

    private static void whatARecordTakes() {
        for (int s = 1; s <= 256; s++) {
            MapStore x = Stores.ring(512);
            Check.due("put of " + s, x.put(0, 0, s), 0);
            Check.due("HEAD - TAIL, s " + s, x.used(0), 8 + Stores.filledUp(s));
            Check.due("take of " + s, x.take(0, 0), s);
            Check.due("HEAD - TAIL behind take, s " + s, x.used(0), 0);
        }
    }

    private static void wrongSizes() {
        MapStore x = Stores.ring(16384);
        int[] sizes = {-256, -1, 0, 257, 258, 512};
        for (int s : sizes) {
            Check.due("put of " + s, x.put(0, 0, s), -22);
        }
        for (int s : Stores.WILD) {
            Check.due("put of " + s, x.put(0, 0, s), -22);
        }
        Check.due("HEAD - TAIL", x.used(0), 0);
        Check.due("nothing is written", x.load(0, 8), 0);
        x.put(0, 0, 1);
        Check.due("none of them is counted", x.load(0, 8), 1);
    }

    private static void roomToTheLastByte() {
        MapStore x = Stores.ring(64);
        for (int i = 0; i < 3; i++) {
            Check.due("16 bytes", x.put(0, 0, 8), 0);
        }
        Check.due("24 of 16", x.put(0, 0, 9), -11);
        Check.due("HEAD - TAIL", x.used(0), 48);
        Check.due("nothing is written", x.load(48, 8), 0);
        Check.due("16 of 16", x.put(0, 0, 8), 0);
        Check.due("what had no room is not counted", x.load(48, 8), 3L << 32 | 8);
        Check.due("HEAD - TAIL", x.used(0), 64);
        Check.due("16 of 0", x.put(0, 0, 1), -11);
        Check.due("a full ring stays", x.load(0, 8), 8);
        x.take(0, 100);
        Check.due("24 of 16", x.put(0, 0, 9), -11);
        Check.due("16 of 16", x.put(0, 0, 1), 0);
        MapStore y = Stores.ring(64);
        y.put(0, 0, 48);
        Check.due("16 of 8", y.put(0, 0, 1), -11);
    }

    private static void noRoomInAnEmptyRing() {
        MapStore x = Stores.ring(64);
        Check.due("72 of 64", x.put(0, 0, 57), -11);
        Check.due("264 of 64", x.put(0, 0, 256), -11);
        Check.due("HEAD - TAIL", x.used(0), 0);
        Check.due("64 of 64", x.put(0, 0, 56), 0);
        MapStore y = Stores.ring(256);
        Check.due("264 of 256", y.put(0, 0, 249), -11);
        Check.due("256 of 256", y.put(0, 0, 248), 0);
    }

    private static void noRoomAcrossTheEnd() {
        MapStore x = Stores.ring(64);
        x.put(0, 0, 40);
        x.take(0, 0);
        x.put(0, 0, 24);
        Check.due("HEAD - TAIL", x.used(0), 32);
        Check.due("40 of 32, round the end", x.put(0, 0, 25), -11);
        Check.due("32 of 32, round the end", x.put(0, 0, 24), 0);
        Check.due("HEAD - TAIL", x.used(0), 64);
        Check.due("16 of 0", x.put(0, 0, 1), -11);
    }

    private static void everyByteOfARecord() {
        for (int s = 1; s <= 17; s++) {
            MapStore x = Stores.ring(64);
            for (int at = 0; at < 64; at += 8) {
                x.store(at, 8, -1L);
            }
            Stores.layRow(x, 201, 1, 24);
            Check.due("put of " + s, x.put(0, 201, s), 0);
            int takes = 8 + Stores.filledUp(s);
            for (int at = 0; at < 64; at++) {
                int want = at == 0 ? s : at < 8 ? 0 : at < 8 + s ? at - 7 : at < takes ? 0 : 255;
                Check.due("s " + s + ", byte " + at, x.load(at, 1), want);
            }
            Check.due("HEAD - TAIL, s " + s, x.used(0), takes);
        }
        MapStore y = Stores.ring(512);
        y.put(0, 0, 256);
        Check.due("256 as a size", y.load(0, 8), 256);
    }

    private static void countsAllRecords() {
        MapStore x = Stores.ring(64);
        x.make(MapStore.RING, 0, 0, 64);
        x.put(0, 0, 8);
        x.put(1, 0, 8);
        x.put(0, 0, 8);
        x.take(0, 0);
        x.take(0, 0);
        x.put(0, 0, 8);
        Check.due("those that were taken count", x.load(32, 8), 2L << 32 | 8);
        x.put(1, 0, 8);
        Check.due("those in another ring do not", x.load(64 + 16, 8), 1L << 32 | 8);
        x.store(36, 4, 77L);
        Check.due("take", x.take(0, 0), 8);
        x.put(0, 0, 8);
        Check.due("what a program wrote there does not", x.load(48, 8), 3L << 32 | 8);
    }

    private static void countsOfMoreThanAByte() {
        MapStore x = Stores.ring(16384);
        for (int i = 0; i < 300; i++) {
            x.put(0, 0, 1);
        }
        for (int i = 250; i < 300; i++) {
            Check.due("record " + i, x.load(16 * i, 8), (long) i << 32 | 1);
        }
    }

    private static void oldestFirst() {
        MapStore x = Stores.ring(64);
        for (int i = 1; i <= 3; i++) {
            x.lay(0, i);
            x.put(0, 0, i);
        }
        for (int i = 1; i <= 3; i++) {
            Check.due("take", x.take(0, 100), i);
            Check.due("its first byte", Stores.deskByte(x, 100), i);
            Check.due("HEAD - TAIL", x.used(0), 48 - 16 * i);
        }
        Check.due("HEAD is TAIL", x.take(0, 100), -2);
        Check.due("the area stays", x.load(0, 8), 1);
    }

    private static void bytesAlone() {
        int[] sizes = {1, 7, 8, 9, 255, 256};
        for (int s : sizes) {
            MapStore x = Stores.ring(512);
            Stores.layRow(x, 0, 1, 256);
            x.put(0, 0, s);
            for (int at = 0; at < 272; at += 8) {
                x.lay(100 + at, -1L);
            }
            Check.due("take of " + s, x.take(0, 104), s);
            Check.due("the byte before, s " + s, Stores.deskByte(x, 103), 255);
            Check.due("the first byte, s " + s, Stores.deskByte(x, 104), 1);
            Check.due("the last byte, s " + s, Stores.deskByte(x, 104 + s - 1), s & 255);
            Check.due("the byte behind, s " + s, Stores.deskByte(x, 104 + s), 255);
        }
    }

    private static void smallerByAProgram() {
        MapStore x = Stores.ring(64);
        Stores.layRow(x, 0, 1, 24);
        x.lay(8, 1L << 32 | 3);
        x.put(0, 0, 24);
        x.store(0, 4, 5L);
        Check.due("s as it stands", x.take(0, 100), 5);
        Check.due("its bytes", x.desk(100), 0x0504030201L);
        Check.due("TAIL grows by 16", x.used(0), 16);
        Check.due("what stands at TAIL then", x.take(0, 100), 3);
        Check.due("its bytes", x.desk(100) & 0xffffff, 0x131211);
        Check.due("HEAD - TAIL", x.used(0), 0);
    }

    private static void largerByAProgram() {
        MapStore x = Stores.ring(64);
        x.put(0, 0, 1);
        x.put(0, 0, 8);
        x.store(0, 4, 24L);
        Check.due("s as it stands, up to HEAD", x.take(0, 100), 24);
        Check.due("the second's header is of its bytes", x.desk(108), 1L << 32 | 8);
        Check.due("HEAD - TAIL", x.used(0), 0);
        Check.due("HEAD is TAIL", x.take(0, 100), -2);
        x.put(0, 0, 1);
        Check.due("the next stands at HEAD", x.load(32, 8), 2L << 32 | 1);
        x.store(32, 4, 8L);
        Check.due("s as it stands, what is filled up too", x.take(0, 100), 8);
    }

    private static void empty() {
        MapStore x = Stores.ring(64);
        x.store(0, 4, 5L);
        x.lay(0, -1L);
        Check.due("a new ring", x.take(0, 0), -2);
        Check.due("again", x.take(0, 0), -2);
        Check.due("the desk stays", x.desk(0), -1L);
        Check.due("HEAD - TAIL", x.used(0), 0);
        x.put(0, 0, 56);
        x.take(0, 0);
        Check.due("a ring that was full", x.take(0, 0), -2);
        x.store(0, 4, 0L);
        Check.due("what is taken cannot break it", x.take(0, 0), -2);
        Check.due("put", x.put(0, 0, 8), 0);
        Check.due("take", x.take(0, 0), 8);
    }

    private static void changedByPrograms() {
        MapStore x = Stores.ring(64);
        x.lay(0, 0x0807060504030201L);
        x.put(0, 0, 8);
        x.store(4, 4, -1L);
        x.store(11, 1, 0x99L);
        Check.due("take", x.take(0, 100), 8);
        Check.due("the bytes as they stand", x.desk(100), 0x0807060599030201L);
    }

    private static void brokenBySize() {
        long[] wrong = {0, 257, 258, 0x0108L << 8, 0x01000000L, 0x80000000L, 0x80000001L, 0xffffffffL, 0xffffff00L};
        for (long s : wrong) {
            MapStore x = Stores.ring(16384);
            x.put(0, 0, 200);
            x.put(0, 0, 200);
            x.lay(100, 5L);
            x.store(0, 4, s);
            Check.due("s is " + s, x.take(0, 100), -22);
            Check.due("the desk stays", x.desk(100), 5);
            Check.due("HEAD - TAIL", x.used(0), 416);
        }
        int[] right = {1, 255, 256};
        for (int s : right) {
            MapStore x = Stores.ring(16384);
            x.put(0, 0, 200);
            x.put(0, 0, 200);
            x.store(0, 4, s);
            Check.due("s is " + s, x.take(0, 100), s);
            Check.due("HEAD - TAIL", x.used(0), 416 - 8 - Stores.filledUp(s));
        }
    }

    private static void brokenBeyondHead() {
        for (int s = 1; s <= 64; s++) {
            MapStore x = Stores.ring(128);
            x.put(0, 0, 5);
            x.put(0, 0, 12);
            x.store(0, 4, s);
            boolean inside = 8 + Stores.filledUp(s) <= 40;
            Check.due("s is " + s + " of 40 to HEAD", x.take(0, 100), inside ? s : -22);
        }
        MapStore y = Stores.ring(64);
        y.put(0, 0, 56);
        y.store(0, 4, 57L);
        Check.due("more than a full ring", y.take(0, 0), -22);
    }

    private static void brokenAcrossTheEnd() {
        int[] sizes = {24, 25};
        for (int s : sizes) {
            MapStore x = Stores.ring(64);
            x.put(0, 0, 40);
            x.take(0, 0);
            x.put(0, 0, 20);
            x.store(48, 4, s);
            Check.due("s is " + s + " of 32 to HEAD, round the end", x.take(0, 100), s == 24 ? 24 : -22);
        }
    }

    private static void notBrokenBeforeItIsTaken() {
        MapStore x = Stores.ring(64);
        x.put(0, 0, 8);
        x.put(0, 0, 8);
        x.store(0, 4, 0L);
        Check.due("put meanwhile", x.put(0, 0, 8), 0);
        x.store(0, 4, 8L);
        x.store(16, 4, 999L);
        Check.due("the first was mended", x.take(0, 0), 8);
        Check.due("put meanwhile", x.put(0, 0, 8), 0);
        Check.due("the second was not", x.take(0, 0), -22);
    }

    private static void brokenForEver() {
        MapStore x = Stores.brokenRing();
        for (int i = 0; i < 20; i++) {
            Check.due("take", x.take(0, 0), -22);
            Check.due("put", x.put(0, 0, 8), -22);
            Check.due("HEAD - TAIL", x.used(0), 16);
        }
        x.store(0, 4, 8L);
        Check.due("take, when the size is mended", x.take(0, 0), -22);
        Check.due("put, when the size is mended", x.put(0, 0, 8), -22);
        Check.due("no record is written", x.load(16, 8), 0);
        MapStore y = Stores.ring(64);
        y.put(0, 0, 8);
        y.store(0, 4, 9L);
        Check.due("beyond HEAD", y.take(0, 0), -22);
        y.store(0, 4, 8L);
        Check.due("take, for ever", y.take(0, 0), -22);
        Check.due("put, for ever", y.put(0, 0, 8), -22);
    }

    private static void othersAreNotBroken() {
        MapStore x = Stores.brokenRing();
        x.make(MapStore.RING, 0, 0, 64);
        Check.due("put into another", x.put(1, 0, 8), 0);
        Check.due("take from another", x.take(1, 0), 8);
        Check.due("the broken one", x.take(0, 0), -22);
    }
}
