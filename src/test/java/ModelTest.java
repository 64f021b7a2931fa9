import java.util.Random;
import java.util.function.LongSupplier;

/** Runs of calls with ordinary, edge and wrong arguments, each answer beside that of the Model. */
public final class ModelTest {
    private static final int RUNS = 5000;
    /** The document promises no more calls; one step of a run makes at most three. */
    private static final int CALLS = 512;
    private static final int STEP = 3;
    /** What sameState needs: the desk, as many places of the area, and two calls for each map. */
    private static final int LOOKS = 64 + 64 + 2 * 64;
    private static final int[] WILD = {-1, -2, -8, 512, 513, 65536, 1 << 30, Integer.MAX_VALUE, Integer.MIN_VALUE};

    private final Random random;
    private final MapStore store = new MapStore();
    private final Model model = new Model();
    private final StringBuilder seen = new StringBuilder();
    private int calls = 0;

    private ModelTest(int seed) {
        random = new Random(seed);
    }

    public static void main(String[] args) {
        for (int seed = 0; seed < RUNS; seed++) {
            if (!new ModelTest(seed).run()) {
                Check.fail("the run with seed " + seed);
                break;
            }
        }
        Check.done();
    }

    /** Half of the runs use all calls; the others keep some, to look at the whole state at their end. */
    private boolean run() {
        boolean looks = random.nextBoolean();
        int most = looks ? random.nextInt(CALLS - LOOKS - STEP) : CALLS - STEP;
        while (calls <= most || model.rows.isEmpty()) {
            if (!oneCall()) {
                System.out.println(seen);
                return false;
            }
        }
        return !looks || sameState();
    }

    private boolean oneCall() {
        if (model.rows.isEmpty() || random.nextInt(40) == 0) {
            return make();
        }
        int map = random.nextInt(50) == 0 ? wild() : random.nextInt(model.rows.size());
        Model.Row r = map >= 0 && map < model.rows.size() ? model.rows.get(map) : model.rows.get(0);
        switch (random.nextInt(14)) {
            case 0: return lay();
            case 1: return area(r);
            case 2: return answers(map, random.nextInt(3));
            case 3: case 4: {
                int at = deskPlace(r.k);
                return same("find(" + map + ", " + at + ")", () -> store.find(map, at), () -> model.find(map, at));
            }
            case 5: case 6: case 7: return update(map, r);
            case 8: {
                int at = deskPlace(r.k);
                return same("remove(" + map + ", " + at + ")", () -> store.remove(map, at),
                        () -> model.remove(map, at));
            }
            case 9: case 10: return put(map);
            case 11: case 12: {
                int at = deskPlace(random.nextInt(257));
                return same("take(" + map + ", " + at + ")", () -> store.take(map, at), () -> model.take(map, at));
            }
            default: {
                int keyAt = random.nextInt(4) == 0 ? -1 : deskPlace(r.k);
                int to = deskPlace(r.k);
                return same("next(" + map + ", " + keyAt + ", " + to + ")", () -> store.next(map, keyAt, to),
                        () -> model.next(map, keyAt, to));
            }
        }
    }

    private boolean make() {
        int kind = random.nextInt(20) == 0 ? wild() : random.nextInt(3);
        int key = kind == 0 ? 4 : kind == 2 ? 0 : pick(1, 2, 8, 9, 64, 1 + random.nextInt(64));
        int value = kind == 2 ? 0 : pick(1, 7, 8, 9, 256, 1 + random.nextInt(256));
        int entries = kind == 2 ? 64 << random.nextInt(5) : pick(1, 2, 3, 5, 100, 4096);
        int off = random.nextInt(12);
        int k = off == 0 ? pick(0, 65, 3, wild()) : key;
        int v = off == 1 ? pick(0, 257, wild()) : value;
        int n = off == 2 ? pick(0, 4097, 63, 32768, wild()) : entries;
        return same("make(" + kind + ", " + k + ", " + v + ", " + n + ")", () -> store.make(kind, k, v, n),
                () -> model.make(kind, k, v, n));
    }

    private boolean lay() {
        int at = deskPlace(8);
        long v = random.nextInt(3) == 0 ? random.nextLong() : random.nextInt(6);
        return same("lay(" + at + ", " + v + ")", () -> {
            store.lay(at, v);
            return 0;
        }, () -> {
            model.write(model.desk, at, 8, v);
            return 0;
        });
    }

    /** Mostly where a map stands, and often on the size of a ring's oldest record. */
    private boolean area(Model.Row r) {
        int size = random.nextInt(15) == 0 ? pick(0, 3, 5, 16, wild()) : 1 << random.nextInt(4);
        int tail = r.begin + (int) (r.tail % r.n);
        int at = pick(tail, r.begin + random.nextInt(r.n * r.stride), random.nextInt(65536), 65536 - size,
                65537 - size, wild());
        long v = pick(0, 1, 8, 16, 256, 257, random.nextInt());
        if (random.nextInt(3) != 0) {
            return same("load(" + at + ", " + size + ")", () -> store.load(at, size), () -> {
                Model.numberSize(size);
                return model.read(model.area, at, size);
            });
        }
        return same("store(" + at + ", " + size + ", " + v + ")", () -> {
            store.store(at, size, v);
            return 0;
        }, () -> {
            Model.numberSize(size);
            model.write(model.area, at, size, v);
            return 0;
        });
    }

    private boolean answers(int map, int which) {
        if (which == 0) {
            int at = deskPlace(8);
            return same("desk(" + at + ")", () -> store.desk(at), () -> model.read(model.desk, at, 8));
        }
        if (which == 1) {
            return same("begins(" + map + ")", () -> store.begins(map), () -> model.row(map).begin);
        }
        return same("used(" + map + ")", () -> store.used(map), () -> model.used(map))
                && same("maps()", () -> store.maps(), () -> model.rows.size())
                && same("breaches()", () -> store.breaches(), () -> 0);
    }

    private boolean update(int map, Model.Row r) {
        int keyAt = deskPlace(r.k);
        int valueAt = deskPlace(r.v);
        int flags = random.nextInt(15) == 0 ? pick(3, wild()) : pick(0, 0, 1, 2);
        return same("update(" + map + ", " + keyAt + ", " + valueAt + ", " + flags + ")",
                () -> store.update(map, keyAt, valueAt, flags), () -> model.update(map, keyAt, valueAt, flags));
    }

    private boolean put(int map) {
        int size = random.nextInt(20) == 0 ? pick(0, 257, wild()) : 1 + random.nextInt(pick(8, 24, 64, 256));
        int at = deskPlace(size);
        return same("put(" + map + ", " + at + ", " + size + ")", () -> store.put(map, at, size),
                () -> model.put(map, at, size));
    }

    /** Few places, so that keys come again; now and then the last that holds size bytes, or beyond. */
    private int deskPlace(int size) {
        switch (random.nextInt(24)) {
            case 0: return wild();
            case 1: return 512 - size;
            case 2: return 513 - size;
            case 3: return random.nextInt(512);
            default: return random.nextInt(20);
        }
    }

    private int wild() {
        return WILD[random.nextInt(WILD.length)];
    }

    private int pick(int... of) {
        return of[random.nextInt(of.length)];
    }

    private boolean same(String call, LongSupplier got, LongSupplier want) {
        calls++;
        String g = outcome(got);
        String w = outcome(want);
        seen.append(call).append(" -> ").append(g).append('\n');
        if (!g.equals(w)) {
            Check.fail(call + " answered " + g + ", due is " + w);
        }
        return g.equals(w);
    }

    private static String outcome(LongSupplier call) {
        try {
            return Long.toString(call.getAsLong());
        } catch (RuntimeException e) {
            return "throws." + e.getClass().getSimpleName();
        }
    }

    private boolean sameState() {
        boolean same = true;
        for (int at = 0; at <= 504; at += 8) {
            same &= store.desk(at) == model.read(model.desk, at, 8);
        }
        for (int i = 0; i < 64; i++) {
            Model.Row r = model.rows.get(random.nextInt(model.rows.size()));
            int at = Math.min(65528, r.begin + random.nextInt(r.n * r.stride));
            same &= store.load(at, 8) == model.read(model.area, at, 8);
        }
        for (int map = 0; map < model.rows.size(); map++) {
            same &= store.used(map) == model.used(map) && store.begins(map) == model.rows.get(map).begin;
        }
        return same;
    }
}
