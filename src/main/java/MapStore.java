/**
 * Maps that small programs in a kernel keep their data in: arrays, tables by keys, and rings of
 * records, whose values all stand in one area of bytes.
 */
public final class MapStore {
    public static final int NONE = -1;
    public static final int ARRAY = 0, TABLE = 1, RING = 2;
    public static final int ANY = 0, NEW = 1, THERE = 2;

    private static final int DONE = 0;
    private static final int NO_KEY = -2;
    private static final int TOO_MUCH = -7;
    private static final int NO_ROOM = -11;
    private static final int KEY_IS_THERE = -17;
    private static final int UNFIT = -22;

    private static final int NUMBER_BYTES = 8;
    private static final int DESK_BYTES = 512;
    private static final int AREA_BYTES = 65536;
    private static final int MOST_MAPS = 64;
    private static final int ARRAY_KEY = 4;
    private static final int MOST_KEY = 64;
    private static final int MOST_VALUE = 256;
    private static final int MOST_ENTRIES = 4096;
    private static final int LEAST_RING = 64;
    private static final int MOST_RING = 16384;
    private static final int MOST_RECORD = 256;
    private static final int COUNT_BYTES = 4;
    private static final int RECORD_HEADER = 2 * COUNT_BYTES;

    private final Bytes deskBytes = new Bytes(DESK_BYTES);
    private final Bytes areaBytes = new Bytes(AREA_BYTES);
    private final AnyMap[] rows = new AnyMap[MOST_MAPS];
    private int made = 0;
    private int areaGiven = 0;

    public MapStore() {
    }

    public int make(int kind, int key, int value, int entries)
            throws IllegalArgumentException, IllegalStateException {
        if (!sizesFit(kind, key, value, entries)) {
            throw new IllegalArgumentException("no map has this kind with these sizes");
        }
        int bytes = kind == RING ? entries : entries * filledUp(value);
        if (made >= MOST_MAPS || bytes > AREA_BYTES - areaGiven) {
            throw new IllegalStateException("too many maps, or too little area");
        }
        rows[made] = newMap(kind, key, value, entries);
        areaGiven += bytes;
        made++;
        return made - 1;
    }

    public int maps() {
        return made;
    }

    public int begins(int map) throws IndexOutOfBoundsException {
        return mapOf(map).begin;
    }

    public int used(int map) throws IndexOutOfBoundsException {
        return mapOf(map).inUse();
    }

    public long desk(int at) throws IndexOutOfBoundsException {
        deskBytes.demand(at, NUMBER_BYTES);
        return deskBytes.number(at, NUMBER_BYTES);
    }

    public void lay(int at, long v) throws IndexOutOfBoundsException {
        deskBytes.demand(at, NUMBER_BYTES);
        deskBytes.setNumber(at, NUMBER_BYTES, v);
    }

    public long load(int at, int size) throws IndexOutOfBoundsException, IllegalArgumentException {
        demandNumberSize(size);
        areaBytes.demand(at, size);
        return areaBytes.number(at, size);
    }

    public void store(int at, int size, long v) throws IndexOutOfBoundsException, IllegalArgumentException {
        demandNumberSize(size);
        areaBytes.demand(at, size);
        areaBytes.setNumber(at, size, v);
    }

    public int find(int map, int keyAt) throws IndexOutOfBoundsException {
        return mapOf(map).placeOf(keyAt);
    }

    public int update(int map, int keyAt, int valueAt, int flags) throws IndexOutOfBoundsException {
        return mapOf(map).write(keyAt, valueAt, flags);
    }

    public int remove(int map, int keyAt) throws IndexOutOfBoundsException {
        return mapOf(map).free(keyAt);
    }

    public int put(int map, int at, int size) throws IndexOutOfBoundsException {
        return mapOf(map).putRecord(at, size);
    }

    public int take(int map, int at) throws IndexOutOfBoundsException {
        return mapOf(map).takeRecord(at);
    }

    public int next(int map, int keyAt, int to) throws IndexOutOfBoundsException {
        return mapOf(map).keyAfter(keyAt, to);
    }

    public int breaches() {
        int sum = 0;
        for (int i = 0; i < made; i++) {
            sum += mapOf(i).clashes();
        }
        return sum;
    }

    private AnyMap mapOf(int map) {
        AnyMap found = map < 0 || map >= made ? null : rows[map];
        if (found == null) {
            throw new IndexOutOfBoundsException("no such map");
        }
        return found;
    }

    private AnyMap newMap(int kind, int key, int value, int entries) {
        switch (kind) {
            case ARRAY:
                return new ArrayMap(deskBytes, areaBytes, areaGiven, value, entries);
            case TABLE:
                return new TableMap(deskBytes, areaBytes, areaGiven, key, value, entries);
            default:
                return new RingMap(deskBytes, areaBytes, areaGiven, entries);
        }
    }

    private static boolean sizesFit(int kind, int key, int value, int entries) {
        switch (kind) {
            case ARRAY:
                return key == ARRAY_KEY && within(value, 1, MOST_VALUE) && within(entries, 1, MOST_ENTRIES);
            case TABLE:
                return within(key, 1, MOST_KEY) && within(value, 1, MOST_VALUE)
                        && within(entries, 1, MOST_ENTRIES);
            case RING:
                return key == 0 && value == 0 && within(entries, LEAST_RING, MOST_RING)
                        && Integer.bitCount(entries) == 1;
            default:
                return false;
        }
    }

    private static void demandNumberSize(int size) {
        if (size != 1 && size != 2 && size != 4 && size != 8) {
            throw new IllegalArgumentException("a number has 1, 2, 4 or 8 bytes");
        }
    }

    private static boolean within(long number, int least, int most) {
        return number >= least && number <= most;
    }

    private static int filledUp(int bytes) {
        return (bytes + 7) & ~7;
    }

    /**
     * A row of bytes. Eight of them share a long, so that the whole area costs 8192 elements.
     * Only demand looks at places; whoever calls the other methods has asked it, or knows that
     * the place is inside.
     */
    private static final class Bytes {
        private final int length;
        private final long[] words;

        Bytes(int length) {
            this.length = length;
            this.words = new long[filledUp(length) / NUMBER_BYTES];
        }

        void demand(int at, int size) {
            // The difference is taken, not the sum: at + size could go round.
            if (at < 0 || at > length - size) {
                throw new IndexOutOfBoundsException("a byte goes beyond the desk or the area");
            }
        }

        int byteAt(int at) {
            return (int) (words[at >> 3] >>> shiftOf(at)) & 255;
        }

        void setByte(int at, long b) {
            long others = words[at >> 3] & ~(255L << shiftOf(at));
            words[at >> 3] = others | (b & 255L) << shiftOf(at);
        }

        long number(int at, int size) {
            long n = 0;
            for (int i = size - 1; i >= 0; i--) {
                n = n << 8 | byteAt(at + i);
            }
            return n;
        }

        void setNumber(int at, int size, long v) {
            for (int i = 0; i < size; i++) {
                setByte(at + i, v >>> 8 * i);
            }
        }

        void copy(int at, Bytes from, int fromAt, int size) {
            for (int i = 0; i < size; i++) {
                setByte(at + i, from.byteAt(fromAt + i));
            }
        }

        boolean same(Bytes other) {
            if (words.length != other.words.length) {
                return false;
            }
            for (int i = 0; i < words.length; i++) {
                if (words[i] != other.words[i]) {
                    return false;
                }
            }
            return true;
        }

        private static int shiftOf(int at) {
            return (at & 7) * 8;
        }
    }

    /** What a kind does not say otherwise is not for this kind, whatever the other arguments are. */
    private abstract static class AnyMap {
        final Bytes desk;
        final Bytes area;
        final int begin;

        AnyMap(Bytes desk, Bytes area, int begin) {
            this.desk = desk;
            this.area = area;
            this.begin = begin;
        }

        abstract int inUse();

        int placeOf(int keyAt) {
            return UNFIT;
        }

        int write(int keyAt, int valueAt, int flags) {
            return UNFIT;
        }

        int free(int keyAt) {
            return UNFIT;
        }

        int putRecord(int at, int size) {
            return UNFIT;
        }

        int takeRecord(int at) {
            return UNFIT;
        }

        int keyAfter(int keyAt, int to) {
            return UNFIT;
        }

        int clashes() {
            return 0;
        }
    }

    /** What arrays and tables share: entries that are found by a key on the desk. */
    private abstract static class EntryMap extends AnyMap {
        final int keySize;
        final int valueSize;
        final int entries;

        EntryMap(Bytes desk, Bytes area, int begin, int keySize, int valueSize, int entries) {
            super(desk, area, begin);
            this.keySize = keySize;
            this.valueSize = valueSize;
            this.entries = entries;
        }

        /** The entry of a key that stands wholly on the desk, or NONE. */
        abstract int entryOf(int keyAt);

        /** The entry for the key that entryOf has just not found, or what goes wrong. */
        abstract int entryForMissing(int flags);

        @Override
        int placeOf(int keyAt) {
            desk.demand(keyAt, keySize);
            int entry = entryOf(keyAt);
            return entry == NONE ? NONE : placeOfEntry(entry);
        }

        @Override
        int write(int keyAt, int valueAt, int flags) {
            desk.demand(keyAt, keySize);
            desk.demand(valueAt, valueSize);
            if (!within(flags, ANY, THERE)) {
                return UNFIT;
            }
            int entry = entryOf(keyAt);
            if (entry != NONE && flags == NEW) {
                return KEY_IS_THERE;
            }
            if (entry == NONE) {
                entry = entryForMissing(flags);
            }
            if (entry < 0) {
                return entry;
            }
            area.copy(placeOfEntry(entry), desk, valueAt, valueSize);
            return DONE;
        }

        private int placeOfEntry(int entry) {
            return begin + entry * filledUp(valueSize);
        }
    }

    private static final class ArrayMap extends EntryMap {
        ArrayMap(Bytes desk, Bytes area, int begin, int valueSize, int entries) {
            super(desk, area, begin, ARRAY_KEY, valueSize, entries);
        }

        @Override
        int inUse() {
            return entries;
        }

        @Override
        int entryOf(int keyAt) {
            // A long, since the four bytes have no sign.
            long number = desk.number(keyAt, ARRAY_KEY);
            return number < entries ? (int) number : NONE;
        }

        @Override
        int entryForMissing(int flags) {
            return TOO_MUCH;
        }
    }

    private static final class TableMap extends EntryMap {
        /** The key of each entry; null where it is free. */
        private final Bytes[] keys;
        /** The key that was looked for last, in a row of its own so that whole words compare. */
        private final Bytes asked;
        /** All entries from this number on are free: no search needs to go there. */
        private int reach = 0;
        private int withKey = 0;
        private int clashesSeen = 0;

        TableMap(Bytes desk, Bytes area, int begin, int keySize, int valueSize, int entries) {
            super(desk, area, begin, keySize, valueSize, entries);
            this.keys = new Bytes[entries];
            this.asked = new Bytes(keySize);
        }

        @Override
        int inUse() {
            return withKey;
        }

        @Override
        int clashes() {
            return clashesSeen;
        }

        @Override
        int entryOf(int keyAt) {
            asked.copy(0, desk, keyAt, keySize);
            return entryWithAsked(NONE);
        }

        @Override
        int entryForMissing(int flags) {
            if (flags == THERE) {
                return NO_KEY;
            }
            int entry = leastFree();
            if (entry == NONE) {
                return TOO_MUCH;
            }
            giveAsked(entry);
            return entry;
        }

        @Override
        int free(int keyAt) {
            desk.demand(keyAt, keySize);
            int entry = entryOf(keyAt);
            if (entry == NONE) {
                return NO_KEY;
            }
            keys[entry] = null;
            withKey--;
            return DONE;
        }

        @Override
        int keyAfter(int keyAt, int to) {
            desk.demand(to, keySize);
            int entry = NONE;
            if (keyAt != NONE) {
                desk.demand(keyAt, keySize);
                entry = entryOf(keyAt);
            }
            // NONE is one below the first entry: then the least of all follows.
            for (int i = entry + 1; i < reach; i++) {
                Bytes key = keys[i];
                if (key != null) {
                    desk.copy(to, key, 0, keySize);
                    return i;
                }
            }
            return NONE;
        }

        private int entryWithAsked(int besides) {
            for (int i = 0; i < reach; i++) {
                Bytes key = keys[i];
                if (key != null && i != besides && key.same(asked)) {
                    return i;
                }
            }
            return NONE;
        }

        private int leastFree() {
            for (int i = 0; i < entries; i++) {
                if (keys[i] == null) {
                    return i;
                }
            }
            return NONE;
        }

        private void giveAsked(int entry) {
            Bytes key = new Bytes(keySize);
            key.copy(0, asked, 0, keySize);
            keys[entry] = key;
            withKey++;
            reach = Math.max(reach, entry + 1);
            // Only here can a key come to stand twice, and so be found elsewhere than in its entry.
            if (entryWithAsked(entry) != NONE) {
                clashesSeen++;
            }
        }
    }

    private static final class RingMap extends AnyMap {
        private final int length;
        private long head = 0;
        private long tail = 0;
        private int records = 0;
        private boolean broken = false;

        RingMap(Bytes desk, Bytes area, int begin, int length) {
            super(desk, area, begin);
            this.length = length;
        }

        @Override
        int inUse() {
            return (int) (head - tail);
        }

        @Override
        int putRecord(int at, int size) {
            if (!within(size, 1, MOST_RECORD)) {
                return UNFIT;
            }
            desk.demand(at, size);
            if (broken) {
                return UNFIT;
            }
            int takes = bytesOfRecord(size);
            if (head - tail + takes > length) {
                return NO_ROOM;
            }
            writeRecord(at, size, takes);
            head += takes;
            records++;
            return DONE;
        }

        @Override
        int takeRecord(int at) {
            if (broken) {
                return UNFIT;
            }
            if (head == tail) {
                return NO_KEY;
            }
            // Programs can write into the area, so this size may be any number.
            long stands = area.number(placeOfCount(tail), COUNT_BYTES);
            if (!within(stands, 1, MOST_RECORD) || bytesOfRecord((int) stands) > head - tail) {
                broken = true;
                return UNFIT;
            }
            int size = (int) stands;
            desk.demand(at, size);
            for (int i = 0; i < size; i++) {
                desk.setByte(at + i, area.byteAt(placeOfCount(tail + RECORD_HEADER + i)));
            }
            tail += bytesOfRecord(size);
            return size;
        }

        private void writeRecord(int at, int size, int takes) {
            // HEAD and the length are multiples of 8: the header never goes round the ring's end.
            int header = placeOfCount(head);
            area.setNumber(header, COUNT_BYTES, size);
            area.setNumber(header + COUNT_BYTES, COUNT_BYTES, records);
            for (int i = 0; i < takes - RECORD_HEADER; i++) {
                int b = i < size ? desk.byteAt(at + i) : 0;
                area.setByte(placeOfCount(head + RECORD_HEADER + i), b);
            }
        }

        private int placeOfCount(long count) {
            // The length is a power of 2, so the mask is the remainder.
            return begin + (int) (count & (length - 1));
        }

        private static int bytesOfRecord(int size) {
            return filledUp(RECORD_HEADER + size);
        }
    }
}
