/** The sentences on tables and on arrays. */
final class SaysEntries {
    private SaysEntries() {
    }

    static void run() {
        Sentence.ofTerms("THE TABLE. Looking for a key finds the entry that has it.");
        findsAmongMany();
        everyByteOfAKeyCounts();
        Sentence.ofTerms("To update with a key that an entry has writes the value there (but -17 with NEW).");
        updateOfAKeyThere();
        Sentence.ofTerms("With another key (but -2 with THERE) the free entry with the least number gets it, and"
                + " the value; -7 when none is free.");
        leastFree();
        noneFree();
        manyEntriesFull();
        Sentence.ofTerms("To remove a key makes its entry free; its bytes stay as they are.");
        removing();
        removingFirstAndLast();
        Sentence.ofTerms("The bytes behind v of an entry (where it is filled up) are never written by an update.");
        bytesBehindAValue();
        Sentence.ofTerms("THE ARRAY. Looking for a key, and the update, take the entry with this number; -7 for an"
                + " update when there is none (looking finds none)");
        arrayEntries();
        noSuchArrayEntry();
        Sentence.ofTerms("with NEW it is always -17 (-7 when there is none).");
        neverNewInAnArray();
        Sentence.ofTerms("Nothing can be removed: -22.");
        nothingRemovedFromAnArray();
    }

    private static void findsAmongMany() {
        MapStore x = Stores.table(8, 8, 40);
        for (int e = 0; e < 40; e++) {
            Stores.update(x, 0, e * 0x0100000001L, e, MapStore.NEW);
        }
        for (int e = 0; e < 40; e++) {
            int place = Stores.find(x, 0, e * 0x0100000001L);
            Check.due("the place of key " + e, place, 8 * e);
            Check.due("the value of key " + e, x.load(place, 8), e);
        }
        Check.due("another key", Stores.find(x, 0, 40 * 0x0100000001L), MapStore.NONE);
    }

    private static void everyByteOfAKeyCounts() {
        for (int k = 1; k <= 64; k++) {
            MapStore x = Stores.table(k, 1, 70);
            Check.due("a key of zeros, k " + k, x.update(0, 0, 0, MapStore.NEW), 0);
            for (int i = 0; i < k; i++) {
                x.lay(200 + i, 0x80L);
                Check.due("byte " + i + " differs, k " + k, x.find(0, 200), MapStore.NONE);
                Check.due("it is new, k " + k, x.update(0, 200, 0, MapStore.NEW), 0);
                x.lay(200 + i, 0L);
            }
            x.lay(200 + k, -1L);
            x.lay(192, -1L);
            Check.due("bytes round a key do not count, k " + k, x.find(0, 200), 0);
            Check.due("used, k " + k, x.used(0), k + 1);
        }
    }

    private static void updateOfAKeyThere() {
        MapStore x = Stores.table(8, 8, 3);
        for (int e = 0; e < 3; e++) {
            Stores.update(x, 0, 10 + e, 100 + e, MapStore.NEW);
        }
        Check.due("ANY", Stores.update(x, 0, 11, 201, MapStore.ANY), 0);
        Check.due("the value", x.load(8, 8), 201);
        Check.due("THERE", Stores.update(x, 0, 12, 202, MapStore.THERE), 0);
        Check.due("the value", x.load(16, 8), 202);
        Check.due("NEW", Stores.update(x, 0, 11, 301, MapStore.NEW), -17);
        Check.due("the value stays", x.load(8, 8), 201);
        Check.due("another's value stays", x.load(0, 8), 100);
        Check.due("used", x.used(0), 3);
        Stores.remove(x, 0, 10);
        Check.due("with a free entry below", Stores.update(x, 0, 12, 302, MapStore.ANY), 0);
        Check.due("the value where the key is", x.load(16, 8), 302);
        Check.due("the free entry's bytes stay", x.load(0, 8), 100);
        Check.due("used", x.used(0), 2);
    }

    private static void leastFree() {
        MapStore x = Stores.table(8, 8, 5);
        for (int e = 0; e < 4; e++) {
            Check.due("entry " + e, Stores.update(x, 0, 10 + e, 0, MapStore.ANY), 0);
            Check.due("its place", Stores.find(x, 0, 10 + e), 8 * e);
        }
        Stores.remove(x, 0, 13);
        Stores.remove(x, 0, 10);
        Stores.remove(x, 0, 12);
        int[] order = {0, 2, 3, 4};
        for (int e : order) {
            Check.due("THERE gets none", Stores.update(x, 0, 20 + e, 500 + e, MapStore.THERE), -2);
            Check.due("used", x.used(0), e == 0 ? 1 : e);
            Check.due("NEW", Stores.update(x, 0, 20 + e, 500 + e, MapStore.NEW), 0);
            Check.due("the least free one", Stores.find(x, 0, 20 + e), 8 * e);
            Check.due("its value", x.load(8 * e, 8), 500 + e);
        }
        Check.due("the one that stayed", Stores.find(x, 0, 11), 8);
    }

    private static void noneFree() {
        MapStore x = Stores.table(8, 8, 2);
        Stores.update(x, 0, 1, 100, MapStore.NEW);
        Stores.update(x, 0, 2, 200, MapStore.NEW);
        Check.due("ANY", Stores.update(x, 0, 3, 300, MapStore.ANY), -7);
        Check.due("NEW", Stores.update(x, 0, 3, 300, MapStore.NEW), -7);
        Check.due("THERE", Stores.update(x, 0, 3, 300, MapStore.THERE), -2);
        Check.due("used", x.used(0), 2);
        Check.due("it is not there", Stores.find(x, 0, 3), MapStore.NONE);
        Check.due("the first value", x.load(0, 8), 100);
        Check.due("the last value", x.load(8, 8), 200);
        Check.due("the byte behind the table", x.load(16, 8), 0);
        Check.due("remove", Stores.remove(x, 0, 2), 0);
        Check.due("one is free again", Stores.update(x, 0, 3, 300, MapStore.NEW), 0);
        Check.due("its place", Stores.find(x, 0, 3), 8);
        MapStore y = Stores.table(1, 1, 1);
        Check.due("a table of one", Stores.update(y, 0, 1, 1, MapStore.ANY), 0);
        Check.due("is full then", Stores.update(y, 0, 2, 1, MapStore.ANY), -7);
    }

    private static void manyEntriesFull() {
        MapStore x = Stores.table(2, 1, 250);
        for (int e = 0; e < 250; e++) {
            x.lay(0, e);
            Check.due("entry " + e, x.update(0, 0, 0, MapStore.NEW), 0);
        }
        x.lay(0, 250L);
        Check.due("one too many", x.update(0, 0, 0, MapStore.ANY), -7);
        Check.due("used", x.used(0), 250);
        x.lay(0, 249L);
        Check.due("the last one", x.find(0, 0), 249 * 8);
    }

    private static void removing() {
        MapStore x = Stores.table(8, 5, 2);
        x.store(0, 8, -1L);
        Stores.update(x, 0, 1, 0x1122334455L, MapStore.NEW);
        Check.due("remove", Stores.remove(x, 0, 1), 0);
        Check.due("its bytes, and those behind v", x.load(0, 8), 0xffffff1122334455L);
        Check.due("used", x.used(0), 0);
        Check.due("find", Stores.find(x, 0, 1), MapStore.NONE);
        Check.due("remove again", Stores.remove(x, 0, 1), -2);
        Check.due("used", x.used(0), 0);
        Check.due("next", x.next(0, MapStore.NONE, 100), MapStore.NONE);
        Check.due("the same key is new", Stores.update(x, 0, 1, 7, MapStore.NEW), 0);
        Check.due("in the same entry", Stores.find(x, 0, 1), 0);
    }

    private static void removingFirstAndLast() {
        MapStore x = Stores.table(8, 8, 3);
        for (int e = 0; e < 3; e++) {
            Stores.update(x, 0, 10 + e, 100 + e, MapStore.NEW);
        }
        Check.due("remove the last", Stores.remove(x, 0, 12), 0);
        Check.due("remove the first", Stores.remove(x, 0, 10), 0);
        Check.due("the one between", Stores.find(x, 0, 11), 8);
        Check.due("the first's bytes", x.load(0, 8), 100);
        Check.due("the last's bytes", x.load(16, 8), 102);
        Check.due("used", x.used(0), 1);
        Check.due("remove the one between", Stores.remove(x, 0, 11), 0);
        Check.due("an empty table", Stores.remove(x, 0, 11), -2);
        Check.due("used", x.used(0), 0);
    }

    private static void bytesBehindAValue() {
        for (int v = 1; v <= 16; v++) {
            for (int kind = MapStore.ARRAY; kind <= MapStore.TABLE; kind++) {
                MapStore x = new MapStore();
                x.make(kind, 4, v, 2);
                for (int at = 0; at < 32; at++) {
                    x.store(at, 1, 0xeeL);
                }
                Stores.layRow(x, 100, 1, 16);
                Check.due("update, v " + v, x.update(0, 0, 100, MapStore.ANY), 0);
                Check.due("update again, v " + v, x.update(0, 0, 100, MapStore.THERE), 0);
                for (int at = 0; at < 32; at++) {
                    Check.due("kind " + kind + ", v " + v + ", byte " + at, x.load(at, 1), at < v ? at + 1 : 0xee);
                }
            }
        }
    }

    private static void arrayEntries() {
        MapStore x = Stores.ring(64);
        x.make(MapStore.ARRAY, 4, 8, 3);
        for (int e = 0; e < 3; e++) {
            Check.due("find " + e, Stores.find(x, 1, e), 64 + 8 * e);
            Check.due("ANY " + e, Stores.update(x, 1, e, 100 + e, MapStore.ANY), 0);
            Check.due("the value of " + e, x.load(64 + 8 * e, 8), 100 + e);
            Check.due("THERE " + e, Stores.update(x, 1, e, 200 + e, MapStore.THERE), 0);
            Check.due("the value of " + e, x.load(64 + 8 * e, 8), 200 + e);
        }
    }

    private static void noSuchArrayEntry() {
        MapStore x = Stores.array(8, 3);
        long[] none = {3, 4, 259, 0x7fffffffL, 0x80000000L, 0xfffffffeL, 0xffffffffL};
        for (long key : none) {
            Check.due("find " + key, Stores.find(x, 0, key), MapStore.NONE);
            Check.due("ANY " + key, Stores.update(x, 0, key, -1, MapStore.ANY), -7);
            Check.due("THERE " + key, Stores.update(x, 0, key, -1, MapStore.THERE), -7);
        }
        for (int at = 0; at < 64; at += 8) {
            Check.due("nothing is written at " + at, x.load(at, 8), 0);
        }
        MapStore y = Stores.array(8, 1);
        Check.due("the only entry", Stores.update(y, 0, 0, 5, MapStore.ANY), 0);
        Check.due("a second one", Stores.update(y, 0, 1, 5, MapStore.ANY), -7);
        MapStore z = Stores.array(8, 4096);
        Check.due("the last of the most", Stores.update(z, 0, 4095, 5, MapStore.ANY), 0);
        Check.due("its value", z.load(32760, 8), 5);
        Check.due("one more", Stores.update(z, 0, 4096, 5, MapStore.ANY), -7);
        Check.due("behind the array", z.load(32768, 8), 0);
    }

    private static void neverNewInAnArray() {
        MapStore x = Stores.array(8, 2);
        Check.due("the first", Stores.update(x, 0, 0, 5, MapStore.NEW), -17);
        Check.due("the last", Stores.update(x, 0, 1, 5, MapStore.NEW), -17);
        Check.due("one more", Stores.update(x, 0, 2, 5, MapStore.NEW), -7);
        Check.due("the number with the highest bit", Stores.update(x, 0, 0x80000000L, 5, MapStore.NEW), -7);
        Check.due("the first value", x.load(0, 8), 0);
        Check.due("the last value", x.load(8, 8), 0);
        Check.due("behind the last value", x.load(16, 8), 0);
    }

    private static void nothingRemovedFromAnArray() {
        MapStore x = Stores.array(8, 2);
        Stores.update(x, 0, 1, 5, MapStore.ANY);
        Check.due("an entry", Stores.remove(x, 0, 1), -22);
        Check.due("no entry", Stores.remove(x, 0, 2), -22);
        Check.due("used", x.used(0), 2);
        Check.due("the value", x.load(8, 8), 5);
        Check.due("find", Stores.find(x, 0, 1), 8);
    }
}
