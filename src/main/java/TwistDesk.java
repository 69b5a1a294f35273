import java.util.Arrays;
import java.util.NoSuchElementException;

public final class TwistDesk {
    private static final int[] PRIMES = {13, 61, 109, 1009, 8101};
    private static final int REGISTERS = 12;
    private static final int GREATEST_NUMBER = 1 << 30;
    private static final int NONCE_MASK = 0x7fffffff;
    private static final int HASH_MASK = (1 << 20) - 1;
    private static final int S_BITS = 16;
    private static final int S_MASK = (1 << S_BITS) - 1;

    private final Curve[] curves;
    private final int[] registers;
    private int kind;
    private Curve curve;

    public TwistDesk() {
        curves = new Curve[PRIMES.length];
        registers = new int[REGISTERS];
        open(0);
    }

    public int begin(int kind) throws IllegalArgumentException {
        if (kind < 0 || kind >= PRIMES.length) {
            throw new IllegalArgumentException("no such kind");
        }
        open(kind);
        return curve.prime;
    }

    public void put(int r, int x, int y) throws NoSuchElementException, IllegalArgumentException {
        needRegister(r);
        if (!curve.holds(x, y)) {
            throw new IllegalArgumentException("no point");
        }
        registers[r] = Curve.point(x, y);
    }

    public void unpack(int r, int packed) throws NoSuchElementException, IllegalArgumentException {
        needRegister(r);
        int point = curve.read(packed);
        if (point == Curve.NONE) {
            throw new IllegalArgumentException("no point is so packed");
        }
        registers[r] = point;
    }

    public int packed(int r) throws NoSuchElementException {
        needRegister(r);
        return Curve.compress(registers[r]);
    }

    public int get(int r, boolean second) throws NoSuchElementException {
        needRegister(r);
        return second ? Curve.yOf(registers[r]) : Curve.xOf(registers[r]);
    }

    public int join(int to, int a, int b, boolean less) throws NoSuchElementException {
        needRegister(to);
        needRegister(a);
        needRegister(b);
        int added = less ? curve.other(registers[b]) : registers[b];
        return keep(to, curve.sum(registers[a], added));
    }

    public int times(int to, long n, int a) throws NoSuchElementException {
        needRegister(to);
        needRegister(a);
        return keep(to, curve.multiple(n, registers[a]));
    }

    public int both(int to, long m, int a, long n, int b) throws NoSuchElementException {
        needRegister(to);
        needRegister(a);
        needRegister(b);
        int first = curve.multiple(m, registers[a]);
        int second = curve.multiple(n, registers[b]);
        return keep(to, curve.sum(first, second));
    }

    public int order(int a) throws NoSuchElementException {
        needRegister(a);
        return curve.orderOf(registers[a]);
    }

    public int points() {
        return curve.size;
    }

    public int base() {
        return curve.leastOfGreatestOrder();
    }

    public int log(int a, int b) throws NoSuchElementException {
        needRegister(a);
        needRegister(b);
        return curve.stepsTo(registers[a], registers[b]);
    }

    public int half(int to, int a) throws NoSuchElementException {
        needRegister(to);
        needRegister(a);
        int whole = registers[a];
        int many = curve.howManyHalves(whole);
        if (many > 0) {
            registers[to] = curve.leastHalf(whole);
        }
        return many;
    }

    public long sign(int a, int key, int message)
            throws NoSuchElementException, IllegalArgumentException, IllegalStateException {
        needRegister(a);
        needNumber(key);
        needNumber(message);
        int start = registers[a];
        if (start == Curve.NEUTRAL) {
            throw new IllegalStateException("the base is neutral");
        }
        long k = nonce(start, (long) key + message + 1);
        int packed = Curve.compress(curve.multiple(k, start));
        long h = hash(packed, message);
        long s = (k + h * key) % curve.orderOf(start);
        return ((long) packed << S_BITS) + s;
    }

    public boolean verify(int a, int b, int message, long signature)
            throws NoSuchElementException, IllegalArgumentException {
        needRegister(a);
        needRegister(b);
        needNumber(message);
        long front = signature >> S_BITS;
        // Looked at as a long: cut to an int, a front that is far too great could look like a point.
        if (front < 0 || front >= Curve.PACKED_END) {
            return false;
        }
        int packed = (int) front;
        int point = curve.read(packed);
        if (point == Curve.NONE) {
            return false;
        }
        int left = curve.multiple(signature & S_MASK, registers[a]);
        int right = curve.multiple(hash(packed, message), registers[b]);
        return left == curve.sum(point, right);
    }

    public int count(int what) {
        switch (what) {
            case 0:
                return kind;
            case 1:
                return curve.prime;
            case 2:
                return curve.d;
            case 3:
                return curve.i;
            case 4:
                return registersInUse();
            default:
                return -1;
        }
    }

    // A curve's rows are dear, so each is made once, when its kind is first begun.
    private void open(int next) {
        if (curves[next] == null) {
            curves[next] = new Curve(PRIMES[next]);
        }
        kind = next;
        curve = curves[next];
        Arrays.fill(registers, Curve.NEUTRAL);
    }

    private int keep(int to, int point) {
        registers[to] = point;
        return Curve.compress(point);
    }

    private int registersInUse() {
        int used = 0;
        for (int point : registers) {
            if (point != Curve.NEUTRAL) {
                used++;
            }
        }
        return used;
    }

    // Two numbers in a row never both give NEUTRAL; a third one is for the 0 that follows 2^31 - 1.
    private long nonce(int start, long first) {
        long k = first & NONCE_MASK;
        for (int tries = 1; tries < 3 && curve.multiple(k, start) == Curve.NEUTRAL; tries++) {
            k = (k + 1) & NONCE_MASK;
        }
        return k;
    }

    private static int hash(int packed, int message) {
        return (packed + message) & HASH_MASK;
    }

    private static void needRegister(int r) {
        if (r < 0 || r >= REGISTERS) {
            throw new NoSuchElementException("no such register");
        }
    }

    private static void needNumber(int number) {
        if (number < 0 || number > GREATEST_NUMBER) {
            throw new IllegalArgumentException("no number from 0 to 2^30");
        }
    }

    /**
     * One curve and its points. A point is one int, x times 8192 plus y, so that no sum makes an object.
     * D is no square and -1 is one, so no divisor in a sum is ever 0.
     */
    private static final class Curve {
        static final int NEUTRAL = 1;
        static final int NONE = -1;
        static final int PACKED_END = 1 << 14;

        private static final int Y_BITS = 13;
        private static final int Y_MASK = (1 << Y_BITS) - 1;
        // More than there are prime factors in any number below 2^14.
        private static final int MOST_FACTORS = 14;
        // Near the square root of the greatest number of points, so that both walks of a log stay short.
        private static final int STRIDE = 128;

        final int prime;
        final int d;
        final int i;
        final int size;

        private final int[] inverses;
        private final int[] roots;
        private final int[] factors;
        private final int[] steps;
        private final int[] halves;
        private final int[] halfCounts;
        private int factorCount;
        private boolean halvesKnown;

        Curve(int prime) {
            this.prime = prime;
            inverses = new int[prime];
            roots = new int[prime];
            factors = new int[MOST_FACTORS];
            steps = new int[2 * prime];
            halves = new int[2 * prime];
            halfCounts = new int[2 * prime];
            fillInverses();
            fillRoots();
            d = leastNonSquare();
            i = roots[prime - 1];
            size = countPoints();
            fillFactors();
        }

        static int point(int x, int y) {
            return (x << Y_BITS) | y;
        }

        static int xOf(int point) {
            return point >> Y_BITS;
        }

        static int yOf(int point) {
            return point & Y_MASK;
        }

        static int compress(int point) {
            return yOf(point) + ((xOf(point) & 1) << Y_BITS);
        }

        boolean holds(int x, int y) {
            if (x < 0 || x >= prime || y < 0 || y >= prime) {
                return false;
            }
            int xx = x * x % prime;
            int yy = y * y % prime;
            int left = (prime - xx + yy) % prime;
            int right = (1 + d * (xx * yy % prime)) % prime;
            return left == right;
        }

        int read(int packed) {
            if (packed < 0 || packed >= PACKED_END || (packed & Y_MASK) >= prime) {
                return NONE;
            }
            int y = packed & Y_MASK;
            int odd = packed >> Y_BITS;
            int x = rootFor(y);
            if (x < 0 || (x == 0 && odd == 1)) {
                return NONE;
            }
            // The prime is odd, so of x and prime - x just one is odd.
            return point((x & 1) == odd ? x : prime - x, y);
        }

        int other(int point) {
            return point((prime - xOf(point)) % prime, yOf(point));
        }

        int sum(int a, int b) {
            int x = xOf(a);
            int y = yOf(a);
            int u = xOf(b);
            int v = yOf(b);
            int t = d * (x * y % prime) % prime * (u * v % prime) % prime;
            int across = (x * v + y * u) % prime * inverses[(1 + t) % prime] % prime;
            int along = (y * v + x * u) % prime * inverses[(1 + prime - t) % prime] % prime;
            return point(across, along);
        }

        // The number of points times any point is NEUTRAL, so only what n leaves by it counts.
        int multiple(long n, int point) {
            int total = NEUTRAL;
            int doubled = point;
            for (int left = (int) Math.floorMod(n, (long) size); left > 0; left >>= 1) {
                if ((left & 1) == 1) {
                    total = sum(total, doubled);
                }
                doubled = sum(doubled, doubled);
            }
            return total;
        }

        // The order divides the number of points, so it is what is left when all needless factors are out.
        int orderOf(int point) {
            int order = size;
            for (int n = 0; n < factorCount; n++) {
                int less = order / factors[n];
                if (multiple(less, point) == NEUTRAL) {
                    order = less;
                }
            }
            return order;
        }

        // No order is above the number of points, so the first of that order ends the search.
        int leastOfGreatestOrder() {
            int greatest = 0;
            int least = 0;
            for (int packed = 0; packed < PACKED_END && greatest < size; packed++) {
                int point = read(packed);
                int order = point == NONE ? 0 : orderOf(point);
                if (order > greatest) {
                    greatest = order;
                    least = packed;
                }
            }
            return least;
        }

        // Small steps from NEUTRAL on, then strides back from the end: a walk of thousands of sums is spared.
        int stepsTo(int step, int end) {
            markSmallSteps(step);
            int strideBack = other(multiple(STRIDE, step));
            int rest = end;
            for (int walked = 0; walked < size; walked += STRIDE) {
                int small = steps[place(rest)];
                if (small >= 0) {
                    return walked + small;
                }
                rest = sum(rest, strideBack);
            }
            return -1;
        }

        int howManyHalves(int whole) {
            fillHalves();
            return halfCounts[place(whole)];
        }

        int leastHalf(int whole) {
            fillHalves();
            return halves[place(whole)];
        }

        // The first mark of a point stays: it is the least number of steps.
        private void markSmallSteps(int step) {
            Arrays.fill(steps, -1);
            int reached = NEUTRAL;
            for (int n = 0; n < STRIDE; n++) {
                int at = place(reached);
                if (steps[at] < 0) {
                    steps[at] = n;
                }
                reached = sum(reached, step);
            }
        }

        // Goes up by PACKED, so that the first half found of a point is the one PACKED least.
        private void fillHalves() {
            if (halvesKnown) {
                return;
            }
            for (int packed = 0; packed < PACKED_END; packed++) {
                int point = read(packed);
                if (point != NONE) {
                    countHalf(point);
                }
            }
            halvesKnown = true;
        }

        private void countHalf(int point) {
            int at = place(sum(point, point));
            if (halfCounts[at] == 0) {
                halves[at] = point;
            }
            halfCounts[at]++;
        }

        // Where a row of 2 * prime elements keeps what belongs to the point.
        private int place(int point) {
            return 2 * yOf(point) + (xOf(point) & 1);
        }

        // A number x with (x, y) a point, or NONE. The divisor is not 0, as D is no square and -1 is one.
        private int rootFor(int y) {
            int yy = y * y % prime;
            int divisor = (1 + d * yy) % prime;
            return roots[(yy + prime - 1) % prime * inverses[divisor] % prime];
        }

        private void fillInverses() {
            inverses[1] = 1;
            for (int n = 2; n < prime; n++) {
                inverses[n] = (prime - prime / n) * inverses[prime % n] % prime;
            }
        }

        private void fillRoots() {
            Arrays.fill(roots, NONE);
            for (int root = 0; root <= prime / 2; root++) {
                roots[root * root % prime] = root;
            }
        }

        private int leastNonSquare() {
            int least = 2;
            while (least < prime - 1 && roots[least] >= 0) {
                least++;
            }
            return least;
        }

        private int countPoints() {
            int counted = 0;
            for (int y = 0; y < prime; y++) {
                int x = rootFor(y);
                if (x >= 0) {
                    counted += x == 0 ? 1 : 2;
                }
            }
            return counted;
        }

        private void fillFactors() {
            int rest = size;
            for (int factor = 2; factor <= rest; factor++) {
                for (; rest % factor == 0 && factorCount < MOST_FACTORS; factorCount++) {
                    factors[factorCount] = factor;
                    rest /= factor;
                }
            }
        }
    }
}
