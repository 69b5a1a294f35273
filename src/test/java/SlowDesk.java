import java.math.BigInteger;
import java.util.ArrayList;
import java.util.Arrays;
import java.util.List;
import java.util.NoSuchElementException;

/** The document's words taken one by one, by search and by counting up: slow, and plain enough to be trusted. */
final class SlowDesk {
    private static final int[] PRIMES = {13, 61, 109, 1009, 8101};
    private static final Field[] FIELDS = new Field[PRIMES.length];

    private int kind;
    private Field field;
    private final int[][] registers = new int[12][];

    SlowDesk() {
        begin(0);
    }

    int begin(int newKind) {
        if (newKind < 0 || newKind > 4) {
            throw new IllegalArgumentException();
        }
        kind = newKind;
        if (FIELDS[kind] == null) {
            FIELDS[kind] = new Field(PRIMES[kind]);
        }
        field = FIELDS[kind];
        Arrays.fill(registers, Field.NEUTRAL);
        return field.p;
    }

    void put(int r, int x, int y) {
        look(r);
        for (int[] point : field.all) {
            if (point[0] == x && point[1] == y) {
                registers[r] = point;
                return;
            }
        }
        throw new IllegalArgumentException();
    }

    void unpack(int r, int packed) {
        look(r);
        int[] point = field.find(packed);
        if (point == null) {
            throw new IllegalArgumentException();
        }
        registers[r] = point;
    }

    int packed(int r) {
        look(r);
        return Field.packed(registers[r]);
    }

    int get(int r, boolean second) {
        look(r);
        return registers[r][second ? 1 : 0];
    }

    int join(int to, int a, int b, boolean less) {
        look(to, a, b);
        registers[to] = field.sum(registers[a], less ? field.other(registers[b]) : registers[b]);
        return packed(to);
    }

    int times(int to, long n, int a) {
        look(to, a);
        registers[to] = field.times(n, registers[a]);
        return packed(to);
    }

    int both(int to, long m, int a, long n, int b) {
        look(to, a, b);
        registers[to] = field.sum(field.times(m, registers[a]), field.times(n, registers[b]));
        return packed(to);
    }

    int order(int a) {
        look(a);
        return field.order(registers[a]);
    }

    int points() {
        return field.all.size();
    }

    int base() {
        return field.base();
    }

    int log(int a, int b) {
        look(a, b);
        int[] reached = Field.NEUTRAL;
        int order = field.order(registers[a]);
        for (int n = 0; n < order; n++) {
            if (Arrays.equals(reached, registers[b])) {
                return n;
            }
            reached = field.sum(reached, registers[a]);
        }
        return -1;
    }

    int half(int to, int a) {
        look(to, a);
        int[] whole = registers[a];
        int many = 0;
        for (int[] point : field.all) {
            if (Arrays.equals(field.sum(point, point), whole)) {
                if (many == 0 || Field.packed(point) < packed(to)) {
                    registers[to] = point;
                }
                many++;
            }
        }
        return many;
    }

    long sign(int a, int key, int message) {
        look(a);
        if (key < 0 || key > 1 << 30 || message < 0 || message > 1 << 30) {
            throw new IllegalArgumentException();
        }
        int[] start = registers[a];
        if (Arrays.equals(start, Field.NEUTRAL)) {
            throw new IllegalStateException();
        }
        long k = ((long) key + message + 1) % (1L << 31);
        while (Arrays.equals(field.times(k, start), Field.NEUTRAL)) {
            k = (k + 1) % (1L << 31);
        }
        long packed = Field.packed(field.times(k, start));
        long h = (packed + message) % (1 << 20);
        long s = BigInteger.valueOf(h).multiply(BigInteger.valueOf(key)).add(BigInteger.valueOf(k))
            .mod(BigInteger.valueOf(field.order(start))).longValueExact();
        return packed * 65536 + s;
    }

    boolean verify(int a, int b, int message, long signature) {
        look(a, b);
        if (message < 0 || message > 1 << 30) {
            throw new IllegalArgumentException();
        }
        if (signature < 0) {
            return false;
        }
        int[] point = field.find(signature / 65536);
        if (point == null) {
            return false;
        }
        long h = (Field.packed(point) + (long) message) % (1 << 20);
        int[] left = field.times(signature % 65536, registers[a]);
        return Arrays.equals(left, field.sum(point, field.times(h, registers[b])));
    }

    int count(int what) {
        int used = 0;
        for (int[] point : registers) {
            used += Arrays.equals(point, Field.NEUTRAL) ? 0 : 1;
        }
        int[] answers = {kind, field.p, field.d, field.i, used};
        return what >= 0 && what < answers.length ? answers[what] : -1;
    }

    private static void look(int... rs) {
        for (int r : rs) {
            if (r < 0 || r > 11) {
                throw new NoSuchElementException();
            }
        }
    }

    private static final class Field {
        static final int[] NEUTRAL = {0, 1};

        final int p;
        final int d;
        final int i;
        final List<int[]> all = new ArrayList<>();
        private final long[] inverses;
        private int base = -1;

        Field(int p) {
            this.p = p;
            boolean[] square = new boolean[p];
            for (int n = 0; n < p; n++) {
                square[n * n % p] = true;
            }
            int least = 2;
            while (square[least]) {
                least++;
            }
            d = least;
            least = 2;
            while ((least * least + 1) % p != 0) {
                least++;
            }
            i = least;
            inverses = new long[p];
            for (int n = 1; n < p; n++) {
                inverses[n] = BigInteger.valueOf(n).modInverse(BigInteger.valueOf(p)).longValueExact();
            }
            findAll();
        }

        static int packed(int[] point) {
            return point[1] + 8192 * (point[0] % 2);
        }

        int[] find(long packed) {
            for (int[] point : all) {
                if (packed(point) == packed) {
                    return point;
                }
            }
            return null;
        }

        int[] other(int[] point) {
            return new int[] {modulo(-point[0]), point[1]};
        }

        int[] sum(int[] a, int[] b) {
            long x = a[0];
            long y = a[1];
            long u = b[0];
            long v = b[1];
            long t = modulo(modulo(d * x * y) * u * v);
            long first = modulo(x * v + y * u) * inverse(1 + t);
            long second = modulo(y * v + x * u) * inverse(1 - t);
            return new int[] {modulo(first), modulo(second)};
        }

        int[] times(long n, int[] point) {
            long left = BigInteger.valueOf(n).abs().mod(BigInteger.valueOf(order(point))).longValueExact();
            int[] one = n < 0 ? other(point) : point;
            int[] total = NEUTRAL;
            for (long m = 0; m < left; m++) {
                total = sum(total, one);
            }
            return total;
        }

        int order(int[] point) {
            int n = 1;
            int[] reached = point;
            while (!Arrays.equals(reached, NEUTRAL)) {
                reached = sum(reached, point);
                n++;
            }
            return n;
        }

        int base() {
            if (base < 0) {
                int greatest = 0;
                for (int[] point : all) {
                    int order = order(point);
                    if (order > greatest || (order == greatest && packed(point) < base)) {
                        greatest = order;
                        base = packed(point);
                    }
                }
            }
            return base;
        }

        private int modulo(long n) {
            return (int) Math.floorMod(n, (long) p);
        }

        private long inverse(long n) {
            if (modulo(n) == 0) {
                throw new AssertionError("a sum divides by 0");
            }
            return inverses[modulo(n)];
        }

        private void findAll() {
            for (long x = 0; x < p; x++) {
                for (long y = 0; y < p; y++) {
                    if ((-x * x + y * y - 1 - d * (x * x % p) * (y * y % p)) % p == 0) {
                        all.add(new int[] {(int) x, (int) y});
                    }
                }
            }
        }
    }
}
