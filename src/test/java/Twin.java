import java.util.Random;
import java.util.function.LongSupplier;

/** A MapStore and a Model that get the same calls; each call here tells whether both answer the same. */
final class Twin {
    /** The document promises no more calls. */
    static final int CALLS = 512;
    /** What sameState needs at most: the desk, as many places of the area, and two calls for each map. */
    static final int LOOKS = 64 + 64 + 2 * 64;

    final Model model = new Model();
    private final MapStore store = new MapStore();
    private final StringBuilder seen = new StringBuilder();
    private int calls = 0;
    private boolean done = false;

    int calls() {
        return calls;
    }

    /** Whether the last call was done: it threw nothing and answered nothing that goes wrong. */
    boolean done() {
        return done;
    }

    /** The calls so far, each with its answer. */
    String run() {
        return seen.toString();
    }

    boolean make(int kind, int k, int v, int n) {
        return same("make(" + kind + ", " + k + ", " + v + ", " + n + ")", () -> store.make(kind, k, v, n),
                () -> model.make(kind, k, v, n));
    }

    boolean counts() {
        return same("maps()", () -> store.maps(), () -> model.rows.size())
                && same("breaches()", () -> store.breaches(), () -> 0);
    }

    boolean begins(int map) {
        return same("begins(" + map + ")", () -> store.begins(map), () -> model.row(map).begin);
    }

    boolean used(int map) {
        return same("used(" + map + ")", () -> store.used(map), () -> model.used(map));
    }

    boolean desk(int at) {
        return same("desk(" + at + ")", () -> store.desk(at), () -> model.read(model.desk, at, 8));
    }

    boolean lay(int at, long v) {
        return same("lay(" + at + ", " + v + ")", () -> {
            store.lay(at, v);
            return 0;
        }, () -> {
            model.write(model.desk, at, 8, v);
            return 0;
        });
    }

    boolean load(int at, int size) {
        return same("load(" + at + ", " + size + ")", () -> store.load(at, size), () -> {
            Model.numberSize(size);
            return model.read(model.area, at, size);
        });
    }

    boolean store(int at, int size, long v) {
        return same("store(" + at + ", " + size + ", " + v + ")", () -> {
            store.store(at, size, v);
            return 0;
        }, () -> {
            Model.numberSize(size);
            model.write(model.area, at, size, v);
            return 0;
        });
    }

    boolean find(int map, int keyAt) {
        return same("find(" + map + ", " + keyAt + ")", () -> store.find(map, keyAt), () -> model.find(map, keyAt));
    }

    boolean update(int map, int keyAt, int valueAt, int flags) {
        return same("update(" + map + ", " + keyAt + ", " + valueAt + ", " + flags + ")",
                () -> store.update(map, keyAt, valueAt, flags), () -> model.update(map, keyAt, valueAt, flags));
    }

    boolean remove(int map, int keyAt) {
        return same("remove(" + map + ", " + keyAt + ")", () -> store.remove(map, keyAt),
                () -> model.remove(map, keyAt));
    }

    boolean put(int map, int at, int size) {
        return same("put(" + map + ", " + at + ", " + size + ")", () -> store.put(map, at, size),
                () -> model.put(map, at, size));
    }

    boolean take(int map, int at) {
        return same("take(" + map + ", " + at + ")", () -> store.take(map, at), () -> model.take(map, at));
    }

    boolean next(int map, int keyAt, int to) {
        return same("next(" + map + ", " + keyAt + ", " + to + ")", () -> store.next(map, keyAt, to),
                () -> model.next(map, keyAt, to));
    }

    /** The whole desk, each map's numbers, and 64 places of the maps in the area. */
    boolean sameState(Random random) {
        boolean same = true;
        for (int at = 0; at <= 504; at += 8) {
            same &= desk(at);
        }
        for (int map = 0; map < model.rows.size(); map++) {
            same &= used(map) && begins(map);
        }
        for (int i = 0; i < 64 && !model.rows.isEmpty(); i++) {
            Model.Row r = model.rows.get(random.nextInt(model.rows.size()));
            same &= load(Math.min(65528, r.begin + random.nextInt(r.n * r.stride)), 8);
        }
        return same;
    }

    private boolean same(String call, LongSupplier got, LongSupplier want) {
        calls++;
        if (calls > CALLS) {
            Check.fail("the test itself calls more often than the document promises answers for");
        }
        String g = outcome(got);
        String w = outcome(want);
        done = !g.startsWith("throws.") && !g.startsWith("-");
        seen.append(call).append(" -> ").append(g).append('\n');
        if (!g.equals(w)) {
            Check.fail(call + " answered " + g + ", due is " + w);
        }
        return g.equals(w);
    }

    private static String outcome(LongSupplier call) {
        try {
            return Long.toString(call.getAsLong());
        } catch (RuntimeException e) {
            return "throws." + e.getClass().getSimpleName();
        }
    }
}
