import java.util.Random;

/** Runs of calls with ordinary, edge and wrong arguments, each answer beside that of the Model. */
public final class ModelTest {
    private static final int RUNS = 5000;
    /** The most calls that one step of a run makes. */
    private static final int STEP = 3;
    private static final int[] WILD = {-1, -2, -8, 512, 513, 65536, 1 << 30, Integer.MAX_VALUE, Integer.MIN_VALUE};

    private final Random random;
    private final Twin twin = new Twin();

    private ModelTest(int seed) {
        random = new Random(seed);
    }

    public static void main(String[] args) {
        for (int seed = 0; seed < RUNS; seed++) {
            ModelTest test = new ModelTest(seed);
            if (!test.run()) {
                System.out.println(test.twin.run());
                Check.fail("the run with seed " + seed);
                break;
            }
        }
        Check.done();
    }

    /** Half of the runs use all calls; the others keep some, to look at the whole state at their end. */
    private boolean run() {
        boolean looks = random.nextBoolean();
        int most = looks ? random.nextInt(Twin.CALLS - Twin.LOOKS - STEP) : Twin.CALLS - STEP;
        while (twin.calls() <= most || twin.model.rows.isEmpty()) {
            if (!oneStep()) {
                return false;
            }
        }
        return !looks || twin.sameState(random);
    }

    private boolean oneStep() {
        int maps = twin.model.rows.size();
        if (maps == 0 || random.nextInt(40) == 0) {
            return make();
        }
        int map = random.nextInt(50) == 0 ? wild() : random.nextInt(maps);
        Model.Row r = twin.model.rows.get(map >= 0 && map < maps ? map : 0);
        switch (random.nextInt(14)) {
            case 0: return twin.lay(deskPlace(8), random.nextInt(3) == 0 ? random.nextLong() : random.nextInt(6));
            case 1: return area(r);
            case 2: return answers(map, random.nextInt(3));
            case 3: case 4: return twin.find(map, deskPlace(r.k));
            case 5: case 6: case 7: return twin.update(map, deskPlace(r.k), deskPlace(r.v), flags());
            case 8: return twin.remove(map, deskPlace(r.k));
            case 9: case 10: return put(map);
            case 11: case 12: return twin.take(map, deskPlace(random.nextInt(257)));
            default: return twin.next(map, random.nextInt(4) == 0 ? -1 : deskPlace(r.k), deskPlace(r.k));
        }
    }

    private boolean make() {
        int kind = random.nextInt(20) == 0 ? wild() : random.nextInt(3);
        int key = kind == 0 ? 4 : kind == 2 ? 0 : pick(1, 2, 8, 9, 64, 1 + random.nextInt(64));
        int value = kind == 2 ? 0 : pick(1, 7, 8, 9, 256, 1 + random.nextInt(256));
        int entries = kind == 2 ? 64 << random.nextInt(5) : pick(1, 2, 3, 5, 100, 4096);
        int off = random.nextInt(12);
        int k = off == 0 ? pick(0, 65, 3, wild()) : key;
        int v = off == 1 ? pick(0, 257, wild()) : value;
        int n = off == 2 ? pick(0, 4097, 63, 32768, wild()) : entries;
        return twin.make(kind, k, v, n);
    }

    /** Mostly where a map stands, and often on the size of a ring's oldest record. */
    private boolean area(Model.Row r) {
        int size = random.nextInt(15) == 0 ? pick(0, 3, 5, 16, wild()) : 1 << random.nextInt(4);
        int tail = r.begin + (int) (r.tail % r.n);
        int at = pick(tail, r.begin + random.nextInt(r.n * r.stride), random.nextInt(65536), 65536 - size,
                65537 - size, wild());
        if (random.nextInt(3) != 0) {
            return twin.load(at, size);
        }
        return twin.store(at, size, pick(0, 1, 8, 16, 256, 257, random.nextInt()));
    }

    private boolean answers(int map, int which) {
        switch (which) {
            case 0: return twin.desk(deskPlace(8));
            case 1: return twin.begins(map);
            default: return twin.used(map) && twin.counts();
        }
    }

    private boolean put(int map) {
        int size = random.nextInt(20) == 0 ? pick(0, 257, wild()) : 1 + random.nextInt(pick(8, 24, 64, 256));
        return twin.put(map, deskPlace(size), size);
    }

    private int flags() {
        return random.nextInt(15) == 0 ? pick(3, wild()) : pick(0, 0, 1, 2);
    }

    /** Few places, so that keys come again; now and then the last that holds size bytes, or beyond. */
    private int deskPlace(int size) {
        switch (random.nextInt(24)) {
            case 0: return wild();
            case 1: return 512 - size;
            case 2: return 513 - size;
            case 3: return random.nextInt(512);
            default: return random.nextInt(20);
        }
    }

    private int wild() {
        return WILD[random.nextInt(WILD.length)];
    }

    private int pick(int... of) {
        return of[random.nextInt(of.length)];
    }
}
