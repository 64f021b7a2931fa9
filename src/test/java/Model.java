import java.util.ArrayList;
import java.util.Arrays;
import java.util.List;

/** The document once more, by other means than the program: plain bytes, and keys as texts. */
final class Model {
    static final class Row {
        int kind, k, v, n, begin, stride;
        String[] keys;
        long head, tail, count;
        boolean broken;
    }

    final byte[] desk = new byte[512];
    final byte[] area = new byte[65536];
    final List<Row> rows = new ArrayList<>();
    private int given = 0;

    int make(int kind, int k, int v, int n) {
        boolean fits = switch (kind) {
            case 0 -> k == 4 && 1 <= v && v <= 256 && 1 <= n && n <= 4096;
            case 1 -> 1 <= k && k <= 64 && 1 <= v && v <= 256 && 1 <= n && n <= 4096;
            case 2 -> k == 0 && v == 0 && List.of(64, 128, 256, 512, 1024, 2048, 4096, 8192, 16384).contains(n);
            default -> false;
        };
        if (!fits) {
            throw new IllegalArgumentException();
        }
        Row r = new Row();
        r.kind = kind;
        r.k = k;
        r.v = v;
        r.n = n;
        r.begin = given;
        r.stride = kind == 2 ? 1 : (v + 7) / 8 * 8;
        r.keys = new String[kind == 1 ? n : 0];
        if (rows.size() == 64 || given + r.stride * n > area.length) {
            throw new IllegalStateException();
        }
        given += r.stride * n;
        rows.add(r);
        return rows.size() - 1;
    }

    Row row(int map) {
        if (map < 0 || map >= rows.size()) {
            throw new IndexOutOfBoundsException();
        }
        return rows.get(map);
    }

    int used(int map) {
        Row r = row(map);
        if (r.kind == 0) {
            return r.n;
        }
        return r.kind == 1 ? (int) Arrays.stream(r.keys).filter(s -> s != null).count() : (int) (r.head - r.tail);
    }

    static void inside(byte[] bytes, long at, long size) {
        if (at < 0 || at + size > bytes.length) {
            throw new IndexOutOfBoundsException();
        }
    }

    long read(byte[] bytes, int at, int size) {
        inside(bytes, at, size);
        long sum = 0;
        for (int i = 0; i < size; i++) {
            sum += (bytes[at + i] & 255L) << 8 * i;
        }
        return sum;
    }

    void write(byte[] bytes, int at, int size, long v) {
        inside(bytes, at, size);
        for (int i = 0; i < size; i++) {
            bytes[at + i] = (byte) (v >> 8 * i);
        }
    }

    static void numberSize(int size) {
        if (!List.of(1, 2, 4, 8).contains(size)) {
            throw new IllegalArgumentException();
        }
    }

    private String key(Row r, int at) {
        inside(desk, at, r.k);
        return Arrays.toString(Arrays.copyOfRange(desk, at, at + r.k));
    }

    private int entry(Row r, int at) {
        String key = key(r, at);
        if (r.kind == 0) {
            long e = read(desk, at, 4);
            return e < r.n ? (int) e : -1;
        }
        return Arrays.asList(r.keys).indexOf(key);
    }

    int find(int map, int at) {
        Row r = row(map);
        if (r.kind == 2) {
            return -22;
        }
        int e = entry(r, at);
        return e == -1 ? -1 : r.begin + e * r.stride;
    }

    int update(int map, int keyAt, int valueAt, int flags) {
        Row r = row(map);
        if (r.kind == 2) {
            return -22;
        }
        int e = entry(r, keyAt);
        inside(desk, valueAt, r.v);
        if (flags < 0 || flags > 2) {
            return -22;
        }
        if (r.kind == 0 && e == -1) {
            return -7;
        }
        if (flags == 1 && e != -1) {
            return -17;
        }
        if (flags == 2 && e == -1) {
            return -2;
        }
        if (e == -1) {
            e = Arrays.asList(r.keys).indexOf(null);
            if (e == -1) {
                return -7;
            }
            r.keys[e] = key(r, keyAt);
        }
        System.arraycopy(desk, valueAt, area, r.begin + e * r.stride, r.v);
        return 0;
    }

    int remove(int map, int at) {
        Row r = row(map);
        if (r.kind != 1) {
            return -22;
        }
        int e = entry(r, at);
        if (e == -1) {
            return -2;
        }
        r.keys[e] = null;
        return 0;
    }

    int put(int map, int at, int size) {
        Row r = row(map);
        if (r.kind != 2 || size < 1 || size > 256) {
            return -22;
        }
        inside(desk, at, size);
        if (r.broken) {
            return -22;
        }
        byte[] record = new byte[8 + (size + 7) / 8 * 8];
        write(record, 0, 4, size);
        write(record, 4, 4, r.count);
        System.arraycopy(desk, at, record, 8, size);
        if (r.head - r.tail + record.length > r.n) {
            return -11;
        }
        for (byte b : record) {
            area[r.begin + (int) (r.head++ % r.n)] = b;
        }
        r.count++;
        return 0;
    }

    int take(int map, int at) {
        Row r = row(map);
        if (r.kind != 2 || r.broken) {
            return -22;
        }
        if (r.head == r.tail) {
            return -2;
        }
        long s = read(area, r.begin + (int) (r.tail % r.n), 4);
        long takes = 8 + (s + 7) / 8 * 8;
        if (s < 1 || s > 256 || r.tail + takes > r.head) {
            r.broken = true;
            return -22;
        }
        inside(desk, at, s);
        for (int i = 0; i < s; i++) {
            desk[at + i] = area[r.begin + (int) ((r.tail + 8 + i) % r.n)];
        }
        r.tail += takes;
        return (int) s;
    }

    int next(int map, int keyAt, int to) {
        Row r = row(map);
        if (r.kind != 1) {
            return -22;
        }
        int e = keyAt == -1 ? -1 : entry(r, keyAt);
        inside(desk, to, r.k);
        for (e++; e < r.n; e++) {
            if (r.keys[e] != null) {
                String[] bytes = r.keys[e].substring(1, r.keys[e].length() - 1).split(", ");
                for (int i = 0; i < r.k; i++) {
                    desk[to + i] = Byte.parseByte(bytes[i]);
                }
                return e;
            }
        }
        return -1;
    }
}
