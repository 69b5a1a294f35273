/** Each promise with ordinary inputs, the answers worked out apart from the program. Its edges: BoundaryTest. */
public final class PromiseTest {
    private static final int[] PRIMES = Desks.PRIMES;
    private static final int[] BASES = Desks.BASES;
    private static final int[] SIZES = Desks.SIZES;
    /** For each kind 2 and 3 times the base, PACKED. */
    private static final int[] DOUBLED = {8194, 14, 8194, 8624, 14317};
    private static final int[] TRIPLED = {8196, 8, 34, 8658, 7983};

    private static final Check check = new Check("PromiseTest");

    public static void main(String[] args) {
        newObject();
        begin();
        put();
        unpack();
        packed();
        get();
        join();
        times();
        both();
        order();
        points();
        base();
        log();
        half();
        sign();
        verify();
        count();
        check.end();
    }

    private static void newObject() {
        check.about("Promise 1");
        TwistDesk desk = new TwistDesk();
        check.due("kind", desk.count(0), 0);
        check.due("P", desk.count(1), 13);
        check.due("registers in use", desk.count(4), 0);
        check.due("points", desk.points(), 16);
    }

    private static void begin() {
        check.about("Promise 2");
        TwistDesk desk = new TwistDesk();
        for (int kind = 4; kind >= 0; kind--) {
            check.due("begin " + kind, desk.begin(kind), PRIMES[kind]);
            check.due("kind after begin", desk.count(0), kind);
            check.due("registers after begin", desk.count(4), 0);
            desk.unpack(11, BASES[kind]);
            check.due("registers after unpack", desk.count(4), 1);
        }
    }

    private static void put() {
        check.about("Promise 3");
        TwistDesk desk = Desks.of(0);
        desk.put(11, 6, 3);
        check.due("x", desk.get(11, false), 6);
        check.due("y", desk.get(11, true), 3);
        check.throwsDue("x and y the other way", Desks.BAD_ARGUMENT, () -> desk.put(11, 3, 6));
        TwistDesk great = Desks.of(4);
        great.put(3, 6408, 13);
        check.due("kind 4", great.packed(3), 13);
        check.throwsDue("kind 4, no point", Desks.BAD_ARGUMENT, () -> great.put(3, 6409, 13));
    }

    private static void unpack() {
        check.about("Promise 4");
        // Every PACKED number of kind 0 with its x.
        int[][] all = {{0, 8}, {1, 0}, {2, 10}, {3, 6}, {4, 2}, {9, 2}, {10, 6}, {11, 10}, {12, 0},
            {8192, 5}, {8194, 3}, {8195, 7}, {8196, 11}, {8201, 11}, {8202, 7}, {8203, 3}};
        TwistDesk desk = Desks.of(0);
        for (int[] one : all) {
            desk.unpack(2, one[0]);
            check.due("x of " + one[0], desk.get(2, false), one[1]);
            check.due("y of " + one[0], desk.get(2, true), one[0] % 8192);
        }
        TwistDesk great = Desks.of(4);
        great.unpack(0, 14317);
        check.due("14317, x", great.get(0, false), 2103);
        check.due("14317, y", great.get(0, true), 6125);
    }

    private static void packed() {
        check.about("Promise 5");
        TwistDesk desk = Desks.of(0);
        desk.put(0, 7, 3);
        check.due("odd x", desk.packed(0), 8195);
        desk.put(0, 6, 3);
        check.due("even x", desk.packed(0), 3);
    }

    private static void get() {
        check.about("Promise 6");
        TwistDesk desk = Desks.of(3);
        desk.put(4, 447, 432);
        check.due("x", desk.get(4, false), 447);
        check.due("y", desk.get(4, true), 432);
    }

    private static void join() {
        check.about("Promise 7");
        for (int kind = 0; kind < Desks.KINDS; kind++) {
            TwistDesk desk = Desks.based(kind);
            check.due("B + B", desk.join(1, 0, 0, false), DOUBLED[kind]);
            check.due("2B + B", desk.join(2, 1, 0, false), TRIPLED[kind]);
            check.due("B + 2B", desk.join(2, 0, 1, false), TRIPLED[kind]);
            check.due("kept", desk.packed(2), TRIPLED[kind]);
            check.due("3B - B", desk.join(3, 2, 0, true), DOUBLED[kind]);
            check.due("B - 2B", desk.join(4, 0, 1, true), BASES[kind] + Desks.ODD);
            check.due("a stays", desk.packed(0), BASES[kind]);
            check.due("b stays", desk.packed(1), DOUBLED[kind]);
        }
    }

    private static void times() {
        check.about("Promise 8");
        long[] factors = {2, 3, -3, 1000, -1000};
        int[][] due = {
            {8194, 8196, 4, 12, 12},
            {14, 8, 8200, 8219, 27},
            {8194, 34, 8226, 83, 8275},
            {8624, 8658, 466, 8771, 579},
            {14317, 7983, 16175, 9782, 1590}};
        for (int kind = 0; kind < Desks.KINDS; kind++) {
            TwistDesk desk = Desks.based(kind);
            for (int n = 0; n < factors.length; n++) {
                check.due(factors[n] + " times", desk.times(1, factors[n], 0), due[kind][n]);
                check.due(factors[n] + " times kept", desk.packed(1), due[kind][n]);
            }
        }
    }

    private static void both() {
        check.about("Promise 9");
        for (int kind = 0; kind < Desks.KINDS; kind++) {
            TwistDesk desk = Desks.based(kind);
            desk.times(1, 5, 0);
            check.due("-2 B + 5 B", desk.both(2, -2, 0, 1, 1), TRIPLED[kind]);
            check.due("13 B - 10 B", desk.both(2, 13, 0, -2, 1), TRIPLED[kind]);
            check.due("kept", desk.packed(2), TRIPLED[kind]);
        }
    }

    private static void order() {
        check.about("Promise 10");
        for (int kind = 0; kind < Desks.KINDS; kind++) {
            TwistDesk desk = Desks.based(kind);
            int size = SIZES[kind];
            for (int n = 1; n <= size; n++) {
                if (size % n == 0) {
                    desk.times(2, n, 0);
                    check.due("of " + n + " times the base", desk.order(2), size / n);
                }
            }
        }
    }

    private static void points() {
        check.about("Promise 11");
        for (int kind = 0; kind < Desks.KINDS; kind++) {
            check.due("kind " + kind, Desks.of(kind).points(), SIZES[kind]);
        }
    }

    private static void base() {
        check.about("Promise 12");
        for (int kind = 0; kind < Desks.KINDS; kind++) {
            check.due("kind " + kind, Desks.of(kind).base(), BASES[kind]);
        }
    }

    private static void log() {
        check.about("Promise 13");
        for (int kind = 0; kind < Desks.KINDS; kind++) {
            int size = SIZES[kind];
            TwistDesk desk = Desks.based(kind);
            for (int step = 0; step < 200; step++) {
                int n = (int) ((long) size * step / 200);
                desk.times(1, n, 0);
                check.due("of " + n + " times", desk.log(0, 1), n);
            }
        }
    }

    private static void half() {
        check.about("Promise 14");
        for (int kind = 0; kind < Desks.KINDS; kind++) {
            TwistDesk desk = Desks.based(kind);
            desk.times(1, 2, 0);
            check.due("of 2 B", desk.half(5, 1), 2);
            check.due("of 2 B, kept", desk.packed(5), BASES[kind]);
            check.due("of 2 B, a stays", desk.packed(1), DOUBLED[kind]);
            check.due("of B", desk.half(5, 0), 0);
        }
    }

    private static void sign() {
        check.about("Promise 15");
        int[][] keysAndMessages = {{7, 41}, {123456, (1 << 20) + 5}};
        long[][] due = {
            {196613, 537591814},
            {538181660, 6},
            {543686696, 393286},
            {14549850, 556925742},
            {844955683, 670634230}};
        for (int kind = 0; kind < Desks.KINDS; kind++) {
            TwistDesk desk = Desks.based(kind);
            for (int n = 0; n < keysAndMessages.length; n++) {
                int key = keysAndMessages[n][0];
                int message = keysAndMessages[n][1];
                check.due("key " + key + ", message " + message, desk.sign(0, key, message), due[kind][n]);
            }
        }
    }

    private static void verify() {
        check.about("Promise 16");
        for (int kind = 0; kind < Desks.KINDS; kind++) {
            for (int key : new int[] {7, 1000, 123456789}) {
                TwistDesk desk = Desks.based(kind);
                desk.times(1, key, 0);
                for (int message : new int[] {2, 41, 987654321}) {
                    String call = "key " + key + ", message " + message + ", kind " + kind;
                    long signature = desk.sign(0, key, message);
                    check.due(call, desk.verify(0, 1, message, signature), true);
                    check.due(call + ", s one more", desk.verify(0, 1, message, signature + 1), false);
                    check.due(call + ", another message", desk.verify(0, 1, message + 1, signature), false);
                    desk.join(2, 1, 0, false);
                    boolean hIsNothing = ((signature >> 16) + message) % (1 << 20) % SIZES[kind] == 0;
                    check.due(call + ", another b", desk.verify(0, 2, message, signature), hIsNothing);
                }
            }
        }
    }

    private static void count() {
        check.about("Promise 17");
        for (int kind = 0; kind < Desks.KINDS; kind++) {
            TwistDesk desk = Desks.based(kind);
            check.due("count 0", desk.count(0), kind);
            check.due("count 1", desk.count(1), PRIMES[kind]);
            check.due("count 2", desk.count(2), Desks.D[kind]);
            check.due("count 3", desk.count(3), Desks.I[kind]);
            check.due("count 4", desk.count(4), 1);
        }
    }
}
