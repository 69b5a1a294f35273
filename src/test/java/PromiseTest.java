import java.util.NoSuchElementException;

/** Each promise with answers worked out apart from the program: ordinary inputs, edges and wrong inputs. */
public final class PromiseTest {
    private static final Class<NoSuchElementException> NO_REGISTER = NoSuchElementException.class;
    private static final Class<IllegalArgumentException> BAD_ARGUMENT = IllegalArgumentException.class;
    private static final Class<IllegalStateException> BAD_STATE = IllegalStateException.class;
    private static final int[] NO_REGISTERS = {-1, 12, Integer.MIN_VALUE, Integer.MAX_VALUE};
    private static final int[] PRIMES = {13, 61, 109, 1009, 8101};
    private static final int[] BASES = {3, 5, 5, 10, 13};
    private static final int[] SIZES = {16, 56, 96, 1032, 8232};
    private static final int TOP = 1 << 30;

    private static final Check check = new Check("PromiseTest");

    public static void main(String[] args) {
        newObject();
        begin();
        put();
        unpack();
        packed();
        get();
        join();
        times();
        both();
        order();
        points();
        base();
        log();
        half();
        sign();
        signOrderOfExceptions();
        verify();
        verifyEdges();
        count();
        throwingChangesNothing();
        check.end();
    }

    private static TwistDesk desk(int kind) {
        TwistDesk desk = new TwistDesk();
        desk.begin(kind);
        return desk;
    }

    /** A desk of the kind with its base in register 0. */
    private static TwistDesk based(int kind) {
        TwistDesk desk = desk(kind);
        desk.unpack(0, BASES[kind]);
        return desk;
    }

    private static void newObject() {
        TwistDesk desk = new TwistDesk();
        check.due("new: kind", desk.count(0), 0);
        check.due("new: P", desk.count(1), 13);
        check.due("new: registers in use", desk.count(4), 0);
        check.due("new: points", desk.points(), 16);
        for (int r = 0; r < 12; r++) {
            check.due("new: packed " + r, desk.packed(r), 1);
        }
    }

    private static void begin() {
        TwistDesk desk = new TwistDesk();
        for (int kind = 4; kind >= 0; kind--) {
            check.due("begin " + kind, desk.begin(kind), PRIMES[kind]);
            check.due("kind after begin", desk.count(0), kind);
            check.due("registers after begin", desk.count(4), 0);
            desk.unpack(11, BASES[kind]);
            check.due("registers after unpack", desk.count(4), 1);
        }
        check.due("begin of the same kind", desk.begin(0), 13);
        check.due("registers after begin of the same kind", desk.count(4), 0);
        for (int kind : new int[] {-1, 5, Integer.MIN_VALUE, Integer.MAX_VALUE}) {
            check.throwsDue("begin " + kind, BAD_ARGUMENT, () -> desk.begin(kind));
        }
    }

    private static void put() {
        TwistDesk desk = desk(0);
        desk.put(11, 6, 3);
        check.due("put x", desk.get(11, false), 6);
        check.due("put y", desk.get(11, true), 3);
        check.nothingThrown("put (0, 12)", () -> desk.put(0, 0, 12));
        check.nothingThrown("put (5, 0)", () -> desk.put(0, 5, 0));
        int[][] bad = {{0, 0}, {1, 1}, {0, 13}, {0, 14}, {13, 1}, {-13, 1}, {19, 3}, {6, -10}, {6, 16}, {3, 6},
            {Integer.MIN_VALUE, 1}, {0, Integer.MAX_VALUE}, {65536, 1}, {0, 65537}};
        for (int[] xy : bad) {
            check.throwsDue("put " + xy[0] + " " + xy[1], BAD_ARGUMENT, () -> desk.put(1, xy[0], xy[1]));
        }
        for (int r : NO_REGISTERS) {
            check.throwsDue("put in " + r, NO_REGISTER, () -> desk.put(r, 6, 3));
            check.throwsDue("put no point in " + r, NO_REGISTER, () -> desk.put(r, 1, 1));
        }
        TwistDesk great = desk(4);
        great.put(3, 6408, 13);
        check.due("put, kind 4", great.packed(3), 13);
        check.throwsDue("put, kind 4, off by one", BAD_ARGUMENT, () -> great.put(3, 6409, 13));
        check.throwsDue("put, kind 4, y is P", BAD_ARGUMENT, () -> great.put(3, 0, 8101));
    }

    private static void unpack() {
        // Every PACKED number of kind 0 with its x; all others are none.
        int[][] all = {{0, 8}, {1, 0}, {2, 10}, {3, 6}, {4, 2}, {9, 2}, {10, 6}, {11, 10}, {12, 0},
            {8192, 5}, {8194, 3}, {8195, 7}, {8196, 11}, {8201, 11}, {8202, 7}, {8203, 3}};
        TwistDesk desk = desk(0);
        int next = 0;
        for (int packed = -5; packed < 16400; packed++) {
            int number = packed;
            if (next < all.length && all[next][0] == packed) {
                desk.unpack(2, packed);
                check.due("x of " + packed, desk.get(2, false), all[next][1]);
                check.due("y of " + packed, desk.get(2, true), packed % 8192);
                next++;
            } else {
                check.throwsDue("unpack " + packed, BAD_ARGUMENT, () -> desk.unpack(2, number));
            }
        }
        for (int packed : new int[] {Integer.MIN_VALUE, Integer.MAX_VALUE, 16384 + 3, 65536 + 3, 8192 + 1, 8192 + 12}) {
            check.throwsDue("unpack " + packed, BAD_ARGUMENT, () -> desk.unpack(2, packed));
        }
        for (int r : NO_REGISTERS) {
            check.throwsDue("unpack in " + r, NO_REGISTER, () -> desk.unpack(r, 3));
            check.throwsDue("unpack none in " + r, NO_REGISTER, () -> desk.unpack(r, -1));
        }
        TwistDesk great = desk(4);
        great.unpack(0, 14317);
        check.due("unpack 14317, x", great.get(0, false), 2103);
        check.due("unpack 14317, y", great.get(0, true), 6125);
        check.throwsDue("unpack, y is P", BAD_ARGUMENT, () -> great.unpack(0, 8101));
        check.throwsDue("unpack, x 0 as odd", BAD_ARGUMENT, () -> great.unpack(0, 8192 + 8100));
    }

    private static void packed() {
        TwistDesk desk = desk(0);
        desk.put(0, 7, 3);
        check.due("packed of odd x", desk.packed(0), 8195);
        desk.put(0, 6, 3);
        check.due("packed of even x", desk.packed(0), 3);
        desk.put(0, 0, 12);
        check.due("packed of x 0", desk.packed(0), 12);
        desk.put(0, 8, 0);
        check.due("packed of y 0, even", desk.packed(0), 0);
        desk.put(0, 5, 0);
        check.due("packed of y 0, odd", desk.packed(0), 8192);
        for (int r : NO_REGISTERS) {
            check.throwsDue("packed " + r, NO_REGISTER, () -> desk.packed(r));
        }
    }

    private static void get() {
        TwistDesk desk = desk(3);
        check.due("x of NEUTRAL", desk.get(11, false), 0);
        check.due("y of NEUTRAL", desk.get(11, true), 1);
        desk.put(4, 447, 432);
        check.due("x", desk.get(4, false), 447);
        check.due("y", desk.get(4, true), 432);
        for (int r : NO_REGISTERS) {
            check.throwsDue("get x " + r, NO_REGISTER, () -> desk.get(r, false));
            check.throwsDue("get y " + r, NO_REGISTER, () -> desk.get(r, true));
        }
    }

    private static void join() {
        int[] doubled = {8194, 14, 8194, 8624, 14317};
        int[] tripled = {8196, 8, 34, 8658, 7983};
        for (int kind = 0; kind < 5; kind++) {
            TwistDesk desk = based(kind);
            check.due("B + B", desk.join(1, 0, 0, false), doubled[kind]);
            check.due("2B + B", desk.join(2, 1, 0, false), tripled[kind]);
            check.due("B + 2B", desk.join(2, 0, 1, false), tripled[kind]);
            check.due("3B - B", desk.join(3, 2, 0, true), doubled[kind]);
            check.due("B - 2B", desk.join(4, 0, 1, true), BASES[kind] + 8192);
            check.due("B - B", desk.join(5, 0, 0, true), 1);
            check.due("NEUTRAL - NEUTRAL", desk.join(6, 7, 7, true), 1);
            check.due("B in place of B + NEUTRAL", desk.join(0, 0, 7, false), BASES[kind]);
            check.due("2B in place of B", desk.join(0, 0, 0, false), doubled[kind]);
            check.due("kept", desk.packed(0), doubled[kind]);
        }
        TwistDesk desk = new TwistDesk();
        for (int r : NO_REGISTERS) {
            check.throwsDue("join to " + r, NO_REGISTER, () -> desk.join(r, 0, 0, false));
            check.throwsDue("join of " + r, NO_REGISTER, () -> desk.join(0, r, 0, false));
            check.throwsDue("join with " + r, NO_REGISTER, () -> desk.join(0, 0, r, true));
        }
    }

    private static void times() {
        long[] factors = {3, -3, 1000, -1000, Long.MAX_VALUE, Long.MIN_VALUE};
        int[][] due = {
            {8196, 4, 12, 12, 8195, 1},
            {8, 8200, 8219, 27, 20, 8219},
            {34, 8226, 83, 8275, 8228, 8243},
            {8658, 466, 8771, 579, 804, 950},
            {7983, 16175, 9782, 1590, 15305, 4077}};
        for (int kind = 0; kind < 5; kind++) {
            TwistDesk desk = based(kind);
            for (int n = 0; n < factors.length; n++) {
                check.due(factors[n] + " times", desk.times(1, factors[n], 0), due[kind][n]);
                check.due(factors[n] + " times kept", desk.packed(1), due[kind][n]);
            }
            check.due("0 times", desk.times(2, 0, 0), 1);
            check.due("1 times", desk.times(2, 1, 0), BASES[kind]);
            check.due("-1 times", desk.times(2, -1, 0), BASES[kind] + 8192);
            check.due("all times", desk.times(2, SIZES[kind], 0), 1);
            check.due("times NEUTRAL", desk.times(2, 5, 11), 1);
            check.due("in place", desk.times(0, 3, 0), due[kind][0]);
        }
        TwistDesk desk = new TwistDesk();
        for (int r : NO_REGISTERS) {
            check.throwsDue("times to " + r, NO_REGISTER, () -> desk.times(r, 1, 0));
            check.throwsDue("times of " + r, NO_REGISTER, () -> desk.times(0, 1, r));
        }
    }

    private static void both() {
        int[] tripled = {8196, 8, 34, 8658, 7983};
        for (int kind = 0; kind < 5; kind++) {
            TwistDesk desk = based(kind);
            desk.times(1, 5, 0);
            check.due("-2 B + 5 B", desk.both(2, -2, 0, 1, 1), tripled[kind]);
            check.due("13 B - 10 B", desk.both(2, 13, 0, -2, 1), tripled[kind]);
            check.due("5 B - 5 B", desk.both(2, 5, 0, -1, 1), 1);
            check.due("0 and 0", desk.both(2, 0, 0, 0, 1), 1);
            check.due("of both ends", desk.both(3, Long.MIN_VALUE, 0, Long.MAX_VALUE, 0), BASES[kind] + 8192);
            check.due("in place of the first", desk.both(1, -1, 1, 8, 0), tripled[kind]);
            check.due("in place of the second", desk.both(0, 1, 1, -2, 0), BASES[kind]);
        }
        TwistDesk desk = new TwistDesk();
        for (int r : NO_REGISTERS) {
            check.throwsDue("both to " + r, NO_REGISTER, () -> desk.both(r, 1, 0, 1, 0));
            check.throwsDue("both of " + r, NO_REGISTER, () -> desk.both(0, 1, r, 1, 0));
            check.throwsDue("both with " + r, NO_REGISTER, () -> desk.both(0, 1, 0, 1, r));
        }
    }

    private static void order() {
        for (int kind = 0; kind < 5; kind++) {
            TwistDesk desk = based(kind);
            int size = SIZES[kind];
            check.due("order of the base", desk.order(0), size);
            check.due("order of NEUTRAL", desk.order(1), 1);
            for (int n = 1; n <= size; n++) {
                if (size % n == 0) {
                    desk.times(2, n, 0);
                    check.due("order of " + n + " times the base", desk.order(2), size / n);
                }
            }
            desk.put(3, 0, PRIMES[kind] - 1);
            check.due("order of (0, -1)", desk.order(3), 2);
            desk.put(3, desk.count(3), 0);
            check.due("order of (i, 0)", desk.order(3), 4);
        }
        TwistDesk desk = new TwistDesk();
        for (int r : NO_REGISTERS) {
            check.throwsDue("order of " + r, NO_REGISTER, () -> desk.order(r));
        }
    }

    private static void points() {
        for (int kind = 0; kind < 5; kind++) {
            check.due("points of " + kind, desk(kind).points(), SIZES[kind]);
        }
    }

    private static void base() {
        for (int kind = 0; kind < 5; kind++) {
            TwistDesk desk = desk(kind);
            check.due("base of " + kind, desk.base(), BASES[kind]);
            check.due("base changes nothing", desk.count(4), 0);
        }
    }

    private static void log() {
        for (int kind = 0; kind < 5; kind++) {
            TwistDesk desk = based(kind);
            int size = SIZES[kind];
            for (int n = 0; n < size; n += n < 300 ? 1 : 101) {
                desk.times(1, n, 0);
                check.due("log " + n, desk.log(0, 1), n);
            }
            desk.times(1, -1, 0);
            check.due("log of the last", desk.log(0, 1), size - 1);
            check.due("log of NEUTRAL", desk.log(0, 5), 0);
            check.due("log of itself", desk.log(0, 0), 1);
            check.due("log by NEUTRAL of NEUTRAL", desk.log(5, 5), 0);
            check.due("log by NEUTRAL of another", desk.log(5, 0), -1);
            desk.times(2, 2, 0);
            check.due("log outside", desk.log(2, 0), -1);
            desk.times(3, -2, 0);
            check.due("log inside half", desk.log(2, 3), size / 2 - 1);
            desk.put(4, 0, PRIMES[kind] - 1);
            check.due("log of (0, -1)", desk.log(0, 4), size / 2);
            check.due("log by (0, -1)", desk.log(4, 4), 1);
            check.due("log by (0, -1), outside", desk.log(4, 0), -1);
        }
        TwistDesk desk = new TwistDesk();
        for (int r : NO_REGISTERS) {
            check.throwsDue("log by " + r, NO_REGISTER, () -> desk.log(r, 0));
            check.throwsDue("log of " + r, NO_REGISTER, () -> desk.log(0, r));
        }
    }

    private static void half() {
        // For each kind the least halves of 2 B, of 4 B, of NEUTRAL and of (0, -1).
        int[][] due = {{3, 11, 1, 0}, {5, 14, 1, 0}, {5, 107, 1, 0}, {10, 577, 1, 0}, {13, 1976, 1, 0}};
        for (int kind = 0; kind < 5; kind++) {
            TwistDesk desk = based(kind);
            desk.times(1, 2, 0);
            desk.times(2, 4, 0);
            desk.put(4, 0, PRIMES[kind] - 1);
            int[] whole = {1, 2, 3, 4};
            for (int n = 0; n < whole.length; n++) {
                check.due("half, how many", desk.half(5, whole[n]), 2);
                check.due("half, kept", desk.packed(5), due[kind][n]);
            }
            desk.times(5, 7, 0);
            int before = desk.packed(5);
            check.due("half of an odd multiple", desk.half(5, 0), 0);
            check.due("half, none, stays", desk.packed(5), before);
            check.due("half in place", desk.half(2, 2), 2);
            check.due("half in place, kept", desk.packed(2), due[kind][1]);
        }
        TwistDesk desk = new TwistDesk();
        for (int r : NO_REGISTERS) {
            check.throwsDue("half to " + r, NO_REGISTER, () -> desk.half(r, 0));
            check.throwsDue("half of " + r, NO_REGISTER, () -> desk.half(0, r));
        }
    }

    private static void sign() {
        int[][] keysAndMessages = {{7, 41}, {0, 0}, {TOP, TOP}, {TOP - 1, TOP}, {TOP, TOP - 2}, {123456, (1 << 20) + 5}};
        long[][] due = {
            {196613, 196609, 196609, 196622, 537067535, 537591814},
            {538181660, 327681, 327721, 327716, 3342351, 6},
            {543686696, 327681, 327713, 327708, 539230239, 393286},
            {14549850, 655361, 655401, 655391, 8389119, 556925742},
            {844955683, 851969, 855489, 855476, 886052511, 670634230}};
        long[] skipped = {196610, 327732, 327772, 655381, 852004};
        for (int kind = 0; kind < 5; kind++) {
            TwistDesk desk = based(kind);
            for (int n = 0; n < due[kind].length; n++) {
                int key = keysAndMessages[n][0];
                int message = keysAndMessages[n][1];
                check.due("sign " + key + " " + message, desk.sign(0, key, message), due[kind][n]);
            }
            check.due("sign, first k skipped", desk.sign(0, 5, SIZES[kind] - 6), skipped[kind]);
            check.due("sign changes nothing", desk.count(4), 1);
            desk.put(1, 0, PRIMES[kind] - 1);
            long front = (PRIMES[kind] - 1L) << 16;
            check.due("sign, order 2, k 1", desk.sign(1, 0, 0), front + 1);
            check.due("sign, order 2, k 2 skipped", desk.sign(1, 0, 1), front + 1);
            check.due("sign, order 2, k 2^31 - 1", desk.sign(1, TOP - 1, TOP - 1), front);
            check.due("sign, order 2, k 2^31 is 0", desk.sign(1, TOP, TOP - 1), front + 1);
        }
    }

    private static void signOrderOfExceptions() {
        TwistDesk desk = based(0);
        for (int r : NO_REGISTERS) {
            check.throwsDue("sign by " + r, NO_REGISTER, () -> desk.sign(r, -1, -1));
        }
        for (int number : new int[] {-1, TOP + 1, Integer.MIN_VALUE, Integer.MAX_VALUE}) {
            check.throwsDue("sign, key " + number, BAD_ARGUMENT, () -> desk.sign(0, number, 0));
            check.throwsDue("sign, message " + number, BAD_ARGUMENT, () -> desk.sign(0, 0, number));
            check.throwsDue("sign by NEUTRAL, key " + number, BAD_ARGUMENT, () -> desk.sign(1, number, 0));
            check.throwsDue("sign by NEUTRAL, message " + number, BAD_ARGUMENT, () -> desk.sign(1, 0, number));
        }
        check.throwsDue("sign by NEUTRAL", BAD_STATE, () -> desk.sign(1, 0, 0));
        check.throwsDue("sign by NEUTRAL, greatest", BAD_STATE, () -> desk.sign(1, TOP, TOP));
    }

    private static void verify() {
        int[] keys = {0, 1, 7, 1000, 123456789, TOP};
        int[] messages = {0, 1, 41, (1 << 20) - 1, 1 << 20, TOP};
        for (int kind = 0; kind < 5; kind++) {
            TwistDesk desk = based(kind);
            for (int key : keys) {
                desk.times(1, key, 0);
                String before = state(desk);
                for (int message : messages) {
                    long signature = desk.sign(0, key, message);
                    String call = "verify, kind " + kind + ", key " + key + ", message " + message;
                    check.due(call, desk.verify(0, 1, message, signature), true);
                    check.due(call + ", s one more", desk.verify(0, 1, message, signature + 1), false);
                    check.due(call + ", s an order more", desk.verify(0, 1, message, signature + SIZES[kind]), true);
                    check.due(call + ", below 0", desk.verify(0, 1, message, signature | Long.MIN_VALUE), false);
                    check.due(call + ", 2^30 more", desk.verify(0, 1, message, signature + (1L << 30)), false);
                    check.due(call + ", 2^48 more", desk.verify(0, 1, message, signature + (1L << 48)), false);
                    check.due(call + ", 2^62 more", desk.verify(0, 1, message, signature + (1L << 62)), false);
                }
                check.due("sign and verify change nothing", state(desk), before);
            }
        }
    }

    private static void verifyEdges() {
        TwistDesk desk = based(0);
        long neutral = 1L << 16;
        check.due("verify, all NEUTRAL", desk.verify(1, 1, 0, neutral), true);
        check.due("verify, all NEUTRAL, any s", desk.verify(1, 1, 5, neutral + 65535), true);
        check.due("verify, NEUTRAL base, another R", desk.verify(1, 1, 5, 3L << 16), false);
        check.due("verify, b NEUTRAL, s 0", desk.verify(0, 1, 9, neutral), true);
        check.due("verify, b NEUTRAL, s 1", desk.verify(0, 1, 9, neutral + 1), false);
        check.due("verify, b NEUTRAL, R is B", desk.verify(0, 1, 9, (3L << 16) + 1), true);
        check.due("verify, another message", desk.verify(0, 0, 42, 77), false);
        check.due("verify, (8, 0) and 77", desk.verify(0, 0, 41, 77), true);
        check.due("verify, R with odd x 0", desk.verify(1, 1, 0, 8193L << 16), false);
        check.due("verify, R with y above P", desk.verify(1, 1, 0, 14L << 16), false);
        check.due("verify, R is 16384 too great", desk.verify(1, 1, 0, 16385L << 16), false);
        check.due("verify, R is 2^32 too great", desk.verify(1, 1, 0, (1L << 48) + neutral), false);
        check.due("verify, greatest", desk.verify(1, 1, 0, Long.MAX_VALUE), false);
        check.due("verify, least", desk.verify(1, 1, 0, Long.MIN_VALUE), false);
        check.due("verify, -1", desk.verify(1, 1, 0, -1), false);
        for (int r : NO_REGISTERS) {
            check.throwsDue("verify by " + r, NO_REGISTER, () -> desk.verify(r, 0, -1, 0));
            check.throwsDue("verify of " + r, NO_REGISTER, () -> desk.verify(0, r, -1, 0));
        }
        for (int message : new int[] {-1, TOP + 1, Integer.MIN_VALUE, Integer.MAX_VALUE}) {
            check.throwsDue("verify, message " + message, BAD_ARGUMENT, () -> desk.verify(0, 1, message, 0));
            check.throwsDue("verify below 0, message " + message, BAD_ARGUMENT, () -> desk.verify(0, 1, message, -1));
        }
    }

    private static void count() {
        int[] d = {2, 2, 2, 11, 2};
        int[] i = {5, 11, 33, 469, 90};
        for (int kind = 0; kind < 5; kind++) {
            TwistDesk desk = desk(kind);
            check.due("count 0", desk.count(0), kind);
            check.due("count 1", desk.count(1), PRIMES[kind]);
            check.due("count 2", desk.count(2), d[kind]);
            check.due("count 3", desk.count(3), i[kind]);
            for (int r = 0; r < 12; r++) {
                check.due("count 4", desk.count(4), r);
                desk.put(r, 0, PRIMES[kind] - 1);
            }
            check.due("count 4, all", desk.count(4), 12);
            desk.put(5, 0, 1);
            check.due("count 4, one NEUTRAL again", desk.count(4), 11);
            for (int what : new int[] {-1, 5, Integer.MIN_VALUE, Integer.MAX_VALUE}) {
                check.due("count " + what, desk.count(what), -1);
            }
        }
    }

    private static void throwingChangesNothing() {
        TwistDesk desk = based(2);
        desk.times(7, 5, 0);
        String before = state(desk);
        check.throwsDue("begin", BAD_ARGUMENT, () -> desk.begin(5));
        check.throwsDue("put", BAD_ARGUMENT, () -> desk.put(7, 1, 1));
        check.throwsDue("unpack", BAD_ARGUMENT, () -> desk.unpack(7, 8193));
        check.throwsDue("join", NO_REGISTER, () -> desk.join(7, 0, 12, false));
        check.throwsDue("times", NO_REGISTER, () -> desk.times(7, 2, -1));
        check.throwsDue("both", NO_REGISTER, () -> desk.both(7, 2, 0, 3, 12));
        check.throwsDue("half", NO_REGISTER, () -> desk.half(7, 12));
        check.throwsDue("sign", BAD_STATE, () -> desk.sign(3, 1, 1));
        check.due("state after throws", state(desk), before);
    }

    private static String state(TwistDesk desk) {
        StringBuilder text = new StringBuilder();
        for (int what = 0; what <= 4; what++) {
            text.append(desk.count(what)).append(' ');
        }
        for (int r = 0; r < 12; r++) {
            text.append(desk.get(r, false)).append(',').append(desk.get(r, true)).append(' ');
        }
        return text.toString();
    }
}
