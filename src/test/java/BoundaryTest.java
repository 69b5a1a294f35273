/**
 * The boundary cases of the promises, by their numbers: too small, too large, none, all, a wrap-around, a refused
 * call. Those of the Terms, which hold for all calls, are in TermsTest. No object is used for more than 512 calls.
 */
public final class BoundaryTest {
    private static final int[] PRIMES = Desks.PRIMES;
    private static final int[] BASES = Desks.BASES;
    private static final int[] SIZES = Desks.SIZES;
    private static final int TOP = Desks.TOP;
    /** For each kind the first and the last y that no point has. */
    private static final int[][] NO_Y = {{5, 8}, {3, 58}, {4, 105}, {4, 1005}, {3, 8098}};

    private static final Check check = new Check("BoundaryTest");

    public static void main(String[] args) {
        newObject();
        newObjectIsApart();
        beginMakesAllNeutral();
        beginOfTheSameKind();
        beginOfNoKind();
        putOfNoPoint();
        unpackOfNone();
        unpackOfEveryNumber();
        getBothNumbers();
        joinInPlace();
        timesInPlace();
        bothInPlace();
        bothOfNothing();
        points();
        baseIsTheLeast();
        baseIsFreeOfTheRegisters();
        logFromZeroOn();
        logOfASmallOrder();
        logThatThereIsNot();
        logOfEveryPair();
        halfOfNeutral();
        halfThatThereIsNot();
        halfInPlace();
        halfOfEveryPoint();
        signAtTheEndsOfKeyAndMessage();
        signOutsideOfKeyAndMessage();
        signByNeutral();
        signPassesNeutralOver();
        signWrapsAround();
        signHashWrapsAround();
        signChangesNothing();
        verifyBelowZero();
        verifyOfNoPoint();
        verifyOfAGreatNumber();
        verifyWithNeutral();
        verifyWithGreatS();
        verifyAtTheEndsOfMessage();
        verifyOutsideOfMessage();
        verifyChangesNothing();
        countElse();
        countOfRegisters();
        check.end();
    }

    private static void newObject() {
        check.about("Promise 1: KIND 0");
        TwistDesk desk = new TwistDesk();
        check.due("the state", Desks.state(desk), Desks.state(Desks.of(0)));
        check.due("points", desk.points(), 16);
        check.due("base", desk.base(), 3);
        check.nothingThrown("unpack of a point of kind 0", () -> desk.unpack(0, 3));
        check.throwsDue("unpack of a point of kind 1", Desks.BAD_ARGUMENT, () -> desk.unpack(0, 5));
    }

    private static void newObjectIsApart() {
        check.about("Promise 1: A new object");
        TwistDesk old = Desks.full(3);
        TwistDesk desk = new TwistDesk();
        check.due("kind of the new one", desk.count(0), 0);
        check.due("registers of the new one", desk.count(4), 0);
        desk.begin(1);
        desk.unpack(0, 5);
        check.due("kind of the old one", old.count(0), 3);
        check.due("registers of the old one", old.count(4), 12);
        check.due("register 0 of the old one", old.packed(0), 10);
    }

    private static void beginMakesAllNeutral() {
        check.about("Promise 2: Another KIND, all REGISTERS NEUTRAL: P");
        for (int kind = 0; kind < Desks.KINDS; kind++) {
            for (int next = 0; next < Desks.KINDS; next++) {
                TwistDesk desk = Desks.full(kind);
                check.due("begin " + next + " after " + kind, desk.begin(next), PRIMES[next]);
                check.due("the state after it", Desks.state(desk), Desks.state(Desks.of(next)));
                check.due("back to " + kind, desk.begin(kind), PRIMES[kind]);
                check.due("the state after it", Desks.state(desk), Desks.state(Desks.of(kind)));
            }
        }
    }

    private static void beginOfTheSameKind() {
        check.about("Promise 2: all REGISTERS NEUTRAL");
        for (int kind = 0; kind < Desks.KINDS; kind++) {
            TwistDesk desk = Desks.full(kind);
            check.due("begin of the same kind", desk.begin(kind), PRIMES[kind]);
            check.due("registers after it", desk.count(4), 0);
        }
    }

    private static void beginOfNoKind() {
        check.about("Promise 2: IllegalArgumentException: none such");
        for (int kind : new int[] {-1, 5, 13, 256, Integer.MIN_VALUE, Integer.MAX_VALUE}) {
            TwistDesk desk = Desks.full(2);
            String before = Desks.state(desk);
            check.throwsDue("begin " + kind, Desks.BAD_ARGUMENT, () -> desk.begin(kind));
            check.due("the state after begin " + kind, Desks.state(desk), before);
        }
    }

    private static void putOfNoPoint() {
        check.about("Promise 3: IllegalArgumentException: that is no POINT");
        for (int kind = 0; kind < Desks.KINDS; kind++) {
            int p = PRIMES[kind];
            TwistDesk desk = Desks.based(kind);
            int x = desk.get(0, false);
            int y = desk.get(0, true);
            // The point itself with a number that is the same modulo P, or modulo what an int's square loses.
            int[][] bad = {{x - p, y}, {x + p, y}, {x, y - p}, {x, y + p}, {-x, y}, {x, -y}, {x, y + 8192},
                {x + 65536, y}, {x, y + 65536}, {x | Integer.MIN_VALUE, y}, {x, y | Integer.MIN_VALUE},
                {0, 0}, {1, 1}, {0, 2}, {x + 2, y}, {x, y + 1}, {p, 1}, {-p, 1}, {0, p + 1}, {0, p - 2}, {0, -1},
                {Integer.MIN_VALUE, 1}, {Integer.MAX_VALUE, 1}, {0, Integer.MIN_VALUE}, {0, Integer.MAX_VALUE}};
            for (int[] xy : bad) {
                String call = "put " + xy[0] + " " + xy[1] + ", kind " + kind;
                check.throwsDue(call, Desks.BAD_ARGUMENT, () -> desk.put(0, xy[0], xy[1]));
                check.due(call + ", what stays", desk.packed(0), BASES[kind]);
            }
            check.nothingThrown("put with x the least", () -> desk.put(0, 0, 1));
            check.nothingThrown("put with y the greatest", () -> desk.put(0, 0, p - 1));
            check.nothingThrown("put with y the least", () -> desk.put(0, desk.count(3), 0));
        }
        check.nothingThrown("put with x P - 1", () -> Desks.of(3).put(0, 1008, 891));
        check.throwsDue("put with x P", Desks.BAD_ARGUMENT, () -> Desks.of(3).put(0, 1009, 891));
    }

    private static void unpackOfNone() {
        check.about("Promise 4: IllegalArgumentException: there is none");
        for (int kind = 0; kind < Desks.KINDS; kind++) {
            int p = PRIMES[kind];
            int b = BASES[kind];
            int[] none = {-1, -b, b + 16384, b + 24576, b + 65536, b | Integer.MIN_VALUE, b | TOP, p, p + b, 8191,
                8192 + p, 8192 + p - 1, 8193, 16383, 16384, Integer.MIN_VALUE, Integer.MAX_VALUE,
                NO_Y[kind][0], NO_Y[kind][1], 8192 + NO_Y[kind][0], 8192 + NO_Y[kind][1]};
            for (int packed : none) {
                TwistDesk desk = Desks.based(kind);
                String call = "unpack " + packed + ", kind " + kind;
                check.throwsDue(call, Desks.BAD_ARGUMENT, () -> desk.unpack(0, packed));
                check.due(call + ", what stays", desk.packed(0), b);
            }
        }
    }

    private static void unpackOfEveryNumber() {
        check.about("Promise 4: REGISTER r is the POINT that is so PACKED");
        for (int kind = 0; kind < Desks.KINDS; kind++) {
            int read = 0;
            for (int from = -200; from < 16600; from += 200) {
                read += unpackFrom(Desks.of(kind), from);
            }
            check.due("how many can be unpacked, kind " + kind, read, SIZES[kind]);
        }
    }

    /** Every number that is read must come back as the PACKED of what was read: so each point is met once. */
    private static int unpackFrom(TwistDesk desk, int from) {
        int read = 0;
        for (int packed = from; packed < from + 200; packed++) {
            try {
                desk.unpack(0, packed);
                read++;
                check.due("packed of what " + packed + " is", desk.packed(0), packed);
            } catch (IllegalArgumentException e) {
                continue;
            }
        }
        return read;
    }

    private static void getBothNumbers() {
        check.about("Promise 6: x (second: y)");
        for (int kind = 0; kind < Desks.KINDS; kind++) {
            TwistDesk desk = Desks.of(kind);
            int i = Desks.I[kind];
            desk.put(0, i, 0);
            desk.put(11, PRIMES[kind] - i, 0);
            check.due("x of (i, 0)", desk.get(0, false), i);
            check.due("y of (i, 0)", desk.get(0, true), 0);
            check.due("x of (-i, 0)", desk.get(11, false), PRIMES[kind] - i);
            check.due("y of (-i, 0)", desk.get(11, true), 0);
            check.due("x of NEUTRAL", desk.get(5, false), 0);
            check.due("y of NEUTRAL", desk.get(5, true), 1);
        }
    }

    private static void joinInPlace() {
        check.about("Promise 7: REGISTER to is the SUM of a and b");
        for (int kind = 0; kind < Desks.KINDS; kind++) {
            TwistDesk desk = Desks.full(kind);
            check.due("to is a", desk.join(4, 4, 5, false), desk.packed(10));
            check.due("kept, to is a", desk.packed(4), desk.packed(10));
            check.due("to is b", desk.join(3, 2, 3, false), desk.packed(6));
            check.due("to is b, less", desk.join(8, 10, 8, true), desk.packed(1));
            check.due("all the same", desk.join(5, 5, 5, false), desk.packed(11));
            check.due("all the same, less", desk.join(6, 6, 6, true), Desks.NEUTRAL);
            check.due("registers that are NEUTRAL now", desk.count(4), 11);
        }
    }

    private static void timesInPlace() {
        check.about("Promise 8: REGISTER to is n TIMES a");
        for (int kind = 0; kind < Desks.KINDS; kind++) {
            TwistDesk desk = Desks.full(kind);
            check.due("4 times in place", desk.times(2, 4, 2), desk.packed(11));
            check.due("kept", desk.packed(2), desk.packed(11));
            check.due("-1 times in place", desk.times(0, -1, 0), BASES[kind] + Desks.ODD);
            check.due("1 times", desk.times(1, 1, 3), desk.packed(3));
            check.due("0 times in place", desk.times(0, 0, 0), Desks.NEUTRAL);
            check.due("any times NEUTRAL", desk.times(1, Long.MAX_VALUE, 0), Desks.NEUTRAL);
            check.due("registers that are NEUTRAL now", desk.count(4), 10);
        }
    }

    private static void bothInPlace() {
        check.about("Promise 9: REGISTER to is m TIMES a and n TIMES b together");
        for (int kind = 0; kind < Desks.KINDS; kind++) {
            TwistDesk desk = Desks.full(kind);
            check.due("to is a", desk.both(3, 2, 3, 1, 2), desk.packed(10));
            check.due("kept, to is a", desk.packed(3), desk.packed(10));
            check.due("to is b", desk.both(4, 1, 1, 2, 4), desk.packed(11));
            check.due("all the same", desk.both(5, 3, 5, -1, 5), desk.packed(11));
            check.due("a and b the same", desk.both(6, 3, 0, 4, 0), Desks.full(kind).packed(6));
        }
    }

    private static void bothOfNothing() {
        check.about("Promise 9: m TIMES a and n TIMES b together");
        for (int kind = 0; kind < Desks.KINDS; kind++) {
            TwistDesk desk = Desks.full(kind);
            long size = SIZES[kind];
            check.due("0 and 0", desk.both(11, 0, 0, 0, 1), Desks.NEUTRAL);
            check.due("1 and 0", desk.both(10, 1, 0, 0, 1), BASES[kind]);
            check.due("0 and 1", desk.both(10, 0, 1, 1, 0), BASES[kind]);
            check.due("2 and -1", desk.both(10, 2, 0, -1, 1), Desks.NEUTRAL);
            check.due("ORDER and 1 more", desk.both(10, size, 1, size + 1, 0), BASES[kind]);
            check.due("the ends", desk.both(10, Long.MIN_VALUE, 0, Long.MAX_VALUE, 0), BASES[kind] + Desks.ODD);
            check.due("of NEUTRAL", desk.both(10, Long.MIN_VALUE, 11, Long.MAX_VALUE, 11), Desks.NEUTRAL);
        }
    }

    private static void points() {
        check.about("Promise 11: How many POINTS there are");
        TwistDesk desk = new TwistDesk();
        check.due("at first", desk.points(), 16);
        for (int kind = Desks.KINDS - 1; kind >= 0; kind--) {
            desk.begin(kind);
            check.due("kind " + kind, desk.points(), SIZES[kind]);
        }
        check.throwsDue("begin 5", Desks.BAD_ARGUMENT, () -> desk.begin(5));
        check.due("after a refused begin", desk.points(), 16);
    }

    private static void baseIsTheLeast() {
        check.about("Promise 12: The least PACKED number of a POINT of the greatest ORDER");
        // For each kind the points PACKED below the base, each with its ORDER.
        int[][][] below = {
            {{0, 4}, {1, 1}, {2, 8}},
            {{0, 4}, {1, 1}, {2, 28}},
            {{0, 4}, {1, 1}, {2, 48}, {3, 32}},
            {{0, 4}, {1, 1}, {2, 129}, {3, 516}, {7, 258}},
            {{0, 4}, {1, 1}, {2, 4116}, {4, 4116}, {6, 2058}, {7, 686}, {8, 2058}}};
        for (int kind = 0; kind < Desks.KINDS; kind++) {
            TwistDesk desk = Desks.of(kind);
            check.due("kind " + kind, desk.base(), BASES[kind]);
            int next = 0;
            for (int packed = 0; packed < BASES[kind]; packed++) {
                int number = packed;
                if (next < below[kind].length && below[kind][next][0] == packed) {
                    desk.unpack(0, packed);
                    check.due("ORDER of " + packed, desk.order(0), below[kind][next][1]);
                    next++;
                } else {
                    check.throwsDue("unpack " + packed, Desks.BAD_ARGUMENT, () -> desk.unpack(0, number));
                }
            }
            desk.unpack(0, desk.base());
            check.due("ORDER of the base", desk.order(0), SIZES[kind]);
        }
    }

    private static void baseIsFreeOfTheRegisters() {
        check.about("Promise 12: base");
        for (int kind = 0; kind < Desks.KINDS; kind++) {
            TwistDesk desk = Desks.full(kind);
            String before = Desks.state(desk);
            check.due("with no register NEUTRAL", desk.base(), BASES[kind]);
            check.due("once more", desk.base(), BASES[kind]);
            check.due("the state after it", Desks.state(desk), before);
        }
    }

    private static void logFromZeroOn() {
        check.about("Promise 13: The least n from 0 on with n TIMES a b");
        for (int kind = 0; kind < Desks.KINDS; kind++) {
            int size = SIZES[kind];
            TwistDesk desk = Desks.based(kind);
            check.due("of NEUTRAL", desk.log(0, 11), 0);
            check.due("of a itself", desk.log(0, 0), 1);
            check.due("by NEUTRAL, of NEUTRAL", desk.log(11, 11), 0);
            check.due("by NEUTRAL, of itself", desk.log(10, 10), 0);
            int[] edges = {1, 2, 15, 16, 55, 63, 64, 95, 127, 128, 129, 255, 256, 257, 1023, 1024, 1031, 4095, 4096,
                8127, 8128, 8191, 8192, size / 2 - 1, size / 2, size / 2 + 1, size - 2, size - 1};
            for (int n : edges) {
                desk.times(1, n, 0);
                check.due("of " + n + " times, kind " + kind, desk.log(0, 1), n % size);
            }
        }
    }

    private static void logOfASmallOrder() {
        check.about("Promise 13: The least n from 0 on");
        for (int kind = 0; kind < Desks.KINDS; kind++) {
            int p = PRIMES[kind];
            int i = Desks.I[kind];
            TwistDesk desk = Desks.of(kind);
            desk.put(0, 0, p - 1);
            desk.put(1, i, 0);
            desk.put(2, p - i, 0);
            check.due("by ORDER 2, of NEUTRAL", desk.log(0, 11), 0);
            check.due("by ORDER 2, of itself", desk.log(0, 0), 1);
            check.due("by ORDER 4, of NEUTRAL", desk.log(1, 11), 0);
            check.due("by ORDER 4, of itself", desk.log(1, 1), 1);
            check.due("by ORDER 4, of ORDER 2", desk.log(1, 0), 2);
            check.due("by ORDER 4, of its OTHER", desk.log(1, 2), 3);
            check.due("by its OTHER", desk.log(2, 1), 3);
        }
    }

    private static void logThatThereIsNot() {
        check.about("Promise 13: -1: there is none");
        for (int kind = 0; kind < Desks.KINDS; kind++) {
            TwistDesk desk = Desks.full(kind);
            String before = Desks.state(desk);
            check.due("by 2 times the base, of the base", desk.log(1, 0), -1);
            check.due("by 2 times the base, of 3 times", desk.log(1, 2), -1);
            check.due("by 4 times the base, of 2 times", desk.log(3, 1), -1);
            check.due("the state after it", Desks.state(desk), before);
            desk.put(1, 0, PRIMES[kind] - 1);
            desk.put(2, Desks.I[kind], 0);
            desk.put(3, 0, 1);
            check.due("by NEUTRAL, of the base", desk.log(3, 0), -1);
            check.due("by NEUTRAL, of ORDER 2", desk.log(3, 1), -1);
            check.due("by ORDER 2, of ORDER 4", desk.log(1, 2), -1);
            check.due("by ORDER 4, of the base", desk.log(2, 0), -1);
        }
    }

    private static void logOfEveryPair() {
        check.about("Promise 13: The least n from 0 on with n TIMES a b; -1: there is none");
        for (int kind = 0; kind < 3; kind++) {
            int size = SIZES[kind];
            for (int first = 0; first < size; first++) {
                TwistDesk desk = Desks.based(kind);
                desk.times(1, first, 0);
                for (int second = 0; second < size; second++) {
                    desk.times(2, second, 0);
                    check.due("by " + first + ", of " + second, desk.log(1, 2), leastFactor(first, second, size));
                }
            }
        }
    }

    private static int leastFactor(int first, int second, int size) {
        for (int n = 0; n < size; n++) {
            if (n * first % size == second) {
                return n;
            }
        }
        return -1;
    }

    private static void halfOfNeutral() {
        check.about("Promise 14: a POINT with 2 TIMES it a, the one PACKED least: how many there are");
        for (int kind = 0; kind < Desks.KINDS; kind++) {
            TwistDesk desk = Desks.based(kind);
            check.due("of NEUTRAL", desk.half(0, 11), 2);
            check.due("of NEUTRAL, kept", desk.packed(0), Desks.NEUTRAL);
            desk.put(1, 0, PRIMES[kind] - 1);
            check.due("of (0, -1)", desk.half(2, 1), 2);
            // (i, 0) and (-i, 0): the one with even x is PACKED 0.
            check.due("of (0, -1), kept", desk.packed(2), 0);
        }
    }

    private static void halfThatThereIsNot() {
        check.about("Promise 14: 0: none (to stays)");
        for (int kind = 0; kind < Desks.KINDS; kind++) {
            TwistDesk desk = Desks.full(kind);
            String before = Desks.state(desk);
            for (int to = 0; to < Desks.REGISTERS; to++) {
                check.due("of the base, to " + to, desk.half(to, 0), 0);
                check.due("of 11 times the base, to " + to, desk.half(to, 10), 0);
            }
            check.due("in place", desk.half(4, 4), 0);
            check.due("the state after it", Desks.state(desk), before);
            desk.put(11, 0, 1);
            check.due("to is NEUTRAL", desk.half(11, 0), 0);
            check.due("to is NEUTRAL still", desk.packed(11), Desks.NEUTRAL);
        }
    }

    private static void halfInPlace() {
        check.about("Promise 14: REGISTER to is a POINT with 2 TIMES it a");
        // For each kind the least halves of 2, of 4 and of 12 times the base.
        int[][] due = {{3, 11, 2}, {5, 14, 32}, {5, 107, 81}, {10, 577, 563}, {13, 1976, 5157}};
        for (int kind = 0; kind < Desks.KINDS; kind++) {
            int[] registers = {1, 3, 11};
            for (int n = 0; n < registers.length; n++) {
                TwistDesk desk = Desks.full(kind);
                int whole = desk.packed(registers[n]);
                check.due("in place", desk.half(registers[n], registers[n]), 2);
                check.due("kept, kind " + kind, desk.packed(registers[n]), due[kind][n]);
                check.due("twice it", desk.times(0, 2, registers[n]), whole);
            }
        }
    }

    private static void halfOfEveryPoint() {
        check.about("Promise 14: the one PACKED least");
        for (int kind = 0; kind < Desks.KINDS; kind++) {
            int size = SIZES[kind];
            int step = size > 100 ? 7 : 1;
            for (int n = 0; n < 100 && n * step < size; n++) {
                halfOf(kind, n * step);
            }
        }
    }

    /** Of n times the base, which has every point among its multiples. */
    private static void halfOf(int kind, int n) {
        TwistDesk desk = Desks.based(kind);
        desk.times(1, n, 0);
        String call = "of " + n + " times, kind " + kind;
        int least = desk.packed(1);
        if (n % 2 == 0) {
            least = Math.min(desk.times(2, n / 2, 0), desk.times(3, (n + SIZES[kind]) / 2, 0));
        }
        check.due(call, desk.half(1, 1), n % 2 == 0 ? 2 : 0);
        check.due(call + ", kept", desk.packed(1), least);
    }

    private static void signAtTheEndsOfKeyAndMessage() {
        check.about("Promise 15: key (0 .. 2^30) and a message (0 .. 2^30)");
        int[][] ends = {{0, 0}, {0, TOP}, {TOP, 0}, {TOP, TOP}, {1, TOP}, {TOP, 1}};
        long[][] due = {
            {196609, 196609, 196609, 196609, 537001988, 537001986},
            {327681, 1114121, 1114145, 327721, 537002012, 537002034},
            {327681, 2359361, 2359361, 327713, 1179732, 1179682},
            {655361, 27001353, 27000937, 655401, 36896821, 36897482},
            {851969, 131990409, 131991793, 855489, 424680666, 424680058}};
        signEach(ends, due);
    }

    private static void signEach(int[][] keysAndMessages, long[][] due) {
        for (int kind = 0; kind < Desks.KINDS; kind++) {
            TwistDesk desk = Desks.based(kind);
            for (int n = 0; n < keysAndMessages.length; n++) {
                int key = keysAndMessages[n][0];
                int message = keysAndMessages[n][1];
                check.due("sign " + key + " " + message + ", kind " + kind, desk.sign(0, key, message), due[kind][n]);
            }
        }
    }

    private static void signOutsideOfKeyAndMessage() {
        check.about("Promise 15: IllegalArgumentException: key or message (0 .. 2^30) is none");
        TwistDesk desk = Desks.based(0);
        for (int number : Desks.NO_NUMBERS) {
            check.throwsDue("key " + number, Desks.BAD_ARGUMENT, () -> desk.sign(0, number, 0));
            check.throwsDue("key " + number + ", message 2^30", Desks.BAD_ARGUMENT, () -> desk.sign(0, number, TOP));
            check.throwsDue("message " + number, Desks.BAD_ARGUMENT, () -> desk.sign(0, 0, number));
            check.throwsDue("message " + number + ", key 2^30", Desks.BAD_ARGUMENT, () -> desk.sign(0, TOP, number));
            check.throwsDue("both " + number, Desks.BAD_ARGUMENT, () -> desk.sign(0, number, number));
        }
    }

    private static void signByNeutral() {
        check.about("Promise 15: (What is thrown comes in this order.) IllegalStateException: a is NEUTRAL");
        for (int kind = 0; kind < Desks.KINDS; kind++) {
            TwistDesk desk = Desks.of(kind);
            check.throwsDue("NEUTRAL", Desks.BAD_STATE, () -> desk.sign(0, 0, 0));
            check.throwsDue("NEUTRAL, both greatest", Desks.BAD_STATE, () -> desk.sign(11, TOP, TOP));
            check.throwsDue("NEUTRAL, no key", Desks.BAD_ARGUMENT, () -> desk.sign(0, -1, 0));
            check.throwsDue("NEUTRAL, no message", Desks.BAD_ARGUMENT, () -> desk.sign(0, 0, TOP + 1));
            check.throwsDue("no register, no key", Desks.NO_REGISTER, () -> desk.sign(12, -1, 0));
            check.throwsDue("no register, no message", Desks.NO_REGISTER, () -> desk.sign(-1, 0, -1));
            desk.put(0, 0, PRIMES[kind] - 1);
            check.nothingThrown("(0, -1) is not NEUTRAL", () -> desk.sign(0, 0, 0));
        }
    }

    private static void signPassesNeutralOver() {
        check.about("Promise 15: one more each time, for which k TIMES a is not NEUTRAL");
        // key + message + 1 is the number of points, by key alone, and by message alone, and one less.
        long[][] due = {
            {196622, 196609, 537067535},
            {327732, 327681, 537198647},
            {327772, 327681, 537198687},
            {656383, 655361, 537527303},
            {860188, 851969, 537731111}};
        for (int kind = 0; kind < Desks.KINDS; kind++) {
            TwistDesk desk = Desks.based(kind);
            for (int times = 1; times <= 3; times++) {
                int many = times * SIZES[kind];
                check.due("by key, kind " + kind, desk.sign(0, many - 1, 0) >> 16, due[kind][0] >> 16);
                check.due("by message, kind " + kind, desk.sign(0, 0, many - 1), due[kind][1]);
                check.due("just before, kind " + kind, desk.sign(0, 0, many - 2), due[kind][2]);
            }
            check.due("by key, s, kind " + kind, desk.sign(0, SIZES[kind] - 1, 0), due[kind][0]);
            desk.put(1, 0, PRIMES[kind] - 1);
            long front = (PRIMES[kind] - 1L) << 16;
            check.due("ORDER 2, k is 1", desk.sign(1, 0, 0), front + 1);
            check.due("ORDER 2, 2 is passed over", desk.sign(1, 0, 1), front + 1);
            check.due("ORDER 2, k is 3", desk.sign(1, 0, 2), front + 1);
        }
    }

    private static void signWrapsAround() {
        check.about("Promise 15: the least from 1 on, modulo 2^31");
        // key + message + 1 is 2^31 - 1 thrice, then 2^31, which is 0 and passed over, twice, then 2^31 + 1.
        int[][] ends = {{TOP - 1, TOP - 1}, {TOP - 2, TOP}, {TOP, TOP - 2}, {TOP - 1, TOP}, {TOP, TOP - 1}, {TOP, TOP}};
        long[][] due = {
            {537067533, 537067529, 537067535, 196622, 196609, 196609},
            {3342365, 3342377, 3342351, 327716, 327713, 327721},
            {539230236, 539230231, 539230239, 327708, 327745, 327713},
            {8389512, 8388871, 8389119, 655391, 655913, 655401},
            {886048128, 886051975, 886052511, 855476, 854585, 855489}};
        signEach(ends, due);
        for (int kind = 0; kind < Desks.KINDS; kind++) {
            TwistDesk desk = Desks.of(kind);
            desk.put(0, 0, PRIMES[kind] - 1);
            long front = (PRIMES[kind] - 1L) << 16;
            check.due("ORDER 2, 2^31 - 1", desk.sign(0, TOP - 1, TOP - 1), front);
            check.due("ORDER 2, 2^31 - 2 is passed over", desk.sign(0, TOP - 2, TOP - 1), front + 1);
            check.due("ORDER 2, 2^31 is 0 and passed over", desk.sign(0, TOP, TOP - 1), front + 1);
        }
    }

    private static void signHashWrapsAround() {
        check.about("Promise 15: h is (PACKED of R + message) modulo 2^20");
        // For each kind a key, a message and what is signed: h is 2^20 - 1, then 0, then 1.
        int[][][] due = {
            {{TOP, 1048573, 131086}, {TOP, 1040373, 537591814}, {TOP, 1040382, 537067535}},
            {{TOP - 1, 1048547, 1835012}, {TOP, 1040340, 539754533}, {TOP, 1040353, 538968066}},
            {{TOP, 1048550, 1638407}, {TOP, 1040278, 543817815}, {TOP, 1040373, 537657398}},
            {{TOP, 1039678, 583074503}, {TOP, 1039387, 602210988}, {TOP - 1, 1039388, 602210475}},
            {{TOP, 1034164, 944442365}, {TOP - 1, 1034165, 944445365}, {TOP - 2, 1034166, 944446267}}};
        for (int kind = 0; kind < Desks.KINDS; kind++) {
            TwistDesk desk = Desks.based(kind);
            for (int[] one : due[kind]) {
                check.due("sign " + one[0] + " " + one[1] + ", kind " + kind, desk.sign(0, one[0], one[1]), one[2]);
                desk.times(1, one[0], 0);
                check.due("verify " + one[2] + ", kind " + kind, desk.verify(0, 1, one[1], one[2]), true);
            }
        }
    }

    private static void signChangesNothing() {
        check.about("Promise 15: sign");
        for (int kind = 0; kind < Desks.KINDS; kind++) {
            TwistDesk desk = Desks.full(kind);
            String before = Desks.state(desk);
            for (int r = 0; r < Desks.REGISTERS; r++) {
                desk.sign(r, TOP - r, r);
            }
            check.due("the state after it", Desks.state(desk), before);
        }
    }

    private static void verifyBelowZero() {
        check.about("Promise 16: False, too, if it is below 0");
        for (int kind = 0; kind < Desks.KINDS; kind++) {
            TwistDesk desk = Desks.based(kind);
            long good = desk.sign(0, 1, 41);
            check.due("good, kind " + kind, desk.verify(0, 0, 41, good), true);
            check.due("good, below 0", desk.verify(0, 0, 41, good | Long.MIN_VALUE), false);
            check.due("good, minus", desk.verify(0, 0, 41, -good), false);
            // With a and b NEUTRAL all that is looked at is R.
            for (long signature : new long[] {-1, -65536, -65535, -(1L << 16) - 1, Long.MIN_VALUE,
                Long.MIN_VALUE + 65536, Long.MIN_VALUE + 65537, (1L << 16) - (1L << 48), (1L << 16) - (1L << 30)}) {
                check.due("NEUTRAL, " + signature, desk.verify(11, 11, 0, signature), false);
            }
        }
    }

    private static void verifyOfNoPoint() {
        check.about("Promise 16: False, too, if R is no POINT");
        for (int kind = 0; kind < Desks.KINDS; kind++) {
            int p = PRIMES[kind];
            int[] none = {8193, 8192 + p - 1, p, p + 1, p + BASES[kind], 8191, 8192 + p, 16383,
                NO_Y[kind][0], NO_Y[kind][1], 8192 + NO_Y[kind][0], 8192 + NO_Y[kind][1]};
            for (int packed : none) {
                falseForEveryS(kind, packed);
            }
        }
    }

    /** With b NEUTRAL, any point whatever that R was taken for would be so with one of these s. */
    private static void falseForEveryS(int kind, int packed) {
        TwistDesk desk = Desks.based(kind);
        for (int s = 0; s < SIZES[kind] && s < 400; s++) {
            boolean answer = desk.verify(0, 11, 41, ((long) packed << 16) + s);
            check.due("R is " + packed + ", s is " + s + ", kind " + kind, answer, false);
        }
    }

    private static void verifyOfAGreatNumber() {
        check.about("Promise 16: (No PACKED of a POINT, however great: false.)");
        for (int kind = 0; kind < Desks.KINDS; kind++) {
            TwistDesk desk = Desks.based(kind);
            long good = desk.sign(0, 1, 41);
            for (int bit = 30; bit < 63; bit++) {
                check.due("good and 2^" + bit, desk.verify(0, 0, 41, good + (1L << bit)), false);
                check.due("NEUTRAL and 2^" + bit, desk.verify(11, 11, 0, (1L << 16) + (1L << bit)), false);
            }
            check.due("2^30, R is 16384", desk.verify(11, 11, 0, 1L << 30), false);
            check.due("the greatest", desk.verify(11, 11, 0, Long.MAX_VALUE), false);
        }
    }

    private static void verifyWithNeutral() {
        check.about("Promise 16: a and b may be NEUTRAL");
        for (int kind = 0; kind < Desks.KINDS; kind++) {
            TwistDesk desk = Desks.based(kind);
            long neutral = 1L << 16;
            long base = (long) BASES[kind] << 16;
            check.due("both, R NEUTRAL", desk.verify(11, 11, 5, neutral), true);
            check.due("both, R NEUTRAL, any s", desk.verify(11, 11, 5, neutral + 65535), true);
            check.due("both, another R", desk.verify(11, 11, 5, base), false);
            check.due("b, s 0", desk.verify(0, 11, 9, neutral), true);
            check.due("b, s 1", desk.verify(0, 11, 9, neutral + 1), false);
            check.due("b, R is a, s 1", desk.verify(0, 11, 9, base + 1), true);
            check.due("b, R is a, s 2", desk.verify(0, 11, 9, base + 2), false);
            // h is the ORDER of b and so nothing of it, R being PACKED 1; then one more.
            check.due("a, h is ORDER", desk.verify(11, 0, SIZES[kind] - 1, neutral + 7), true);
            check.due("a, h is one more", desk.verify(11, 0, SIZES[kind], neutral + 7), false);
            // R is the OTHER of b, and h leaves 1 divided by the ORDER.
            int other = BASES[kind] + Desks.ODD;
            int message = Math.floorMod(1 - other, SIZES[kind]);
            check.due("a, R and b together NEUTRAL", desk.verify(11, 0, message, (long) other << 16), true);
            check.due("a, R and b not together NEUTRAL", desk.verify(11, 0, message + 1, (long) other << 16), false);
        }
    }

    private static void verifyWithGreatS() {
        check.about("Promise 16: s below 65,536, s need not be below ORDER");
        for (int kind = 0; kind < Desks.KINDS; kind++) {
            TwistDesk desk = Desks.based(kind);
            desk.times(1, 7, 0);
            long good = desk.sign(0, 7, 41);
            long front = good >> 16 << 16;
            int size = SIZES[kind];
            for (long s = good - front; s < 65536; s += 65536 / size / 8 * size + size) {
                check.due("s is " + s + ", kind " + kind, desk.verify(0, 1, 41, front + s), true);
                check.due("s is one more, kind " + kind, desk.verify(0, 1, 41, (front + s + 1)), false);
            }
            // The greatest s that holds, and 65,536 more, which is another R.
            long greatest = 65535 - (65535 - (good - front)) % size;
            check.due("greatest s, kind " + kind, desk.verify(0, 1, 41, front + greatest), true);
            check.due("another R, kind " + kind, desk.verify(0, 1, 41, good + 65536), false);
        }
    }

    private static void verifyAtTheEndsOfMessage() {
        check.about("Promise 16: Whether a signature is so, message 0 .. 2^30");
        int[] messages = {0, 1, (1 << 20) - 1, 1 << 20, (1 << 20) + 1, TOP - 1, TOP};
        for (int kind = 0; kind < Desks.KINDS; kind++) {
            for (int key : new int[] {0, 1, SIZES[kind] - 1, SIZES[kind], TOP - 1, TOP}) {
                TwistDesk desk = Desks.based(kind);
                desk.times(1, key, 0);
                for (int message : messages) {
                    String call = "key " + key + ", message " + message + ", kind " + kind;
                    long good = desk.sign(0, key, message);
                    check.due(call, desk.verify(0, 1, message, good), true);
                    check.due(call + ", s one more", desk.verify(0, 1, message, good + 1), false);
                    // 2^20 more leaves h as it is.
                    int same = message < 1 << 20 ? message + (1 << 20) : message - (1 << 20);
                    check.due(call + ", same h", desk.verify(0, 1, same, good), true);
                }
            }
        }
    }

    private static void verifyOutsideOfMessage() {
        check.about("Promise 16: IllegalArgumentException: message is none");
        TwistDesk desk = Desks.based(0);
        for (int message : Desks.NO_NUMBERS) {
            check.throwsDue("message " + message, Desks.BAD_ARGUMENT, () -> desk.verify(0, 1, message, 1L << 16));
            check.throwsDue("message " + message + ", below 0", Desks.BAD_ARGUMENT, () -> desk.verify(0, 1, message, -1));
            check.throwsDue("message " + message + ", no R", Desks.BAD_ARGUMENT,
                () -> desk.verify(0, 1, message, 8193L << 16));
            check.throwsDue("message " + message + ", a too great R", Desks.BAD_ARGUMENT,
                () -> desk.verify(0, 1, message, Long.MAX_VALUE));
            check.throwsDue("message " + message + ", NEUTRAL", Desks.BAD_ARGUMENT, () -> desk.verify(11, 11, message, 0));
            check.throwsDue("message " + message + ", no a", Desks.NO_REGISTER, () -> desk.verify(12, 1, message, 0));
            check.throwsDue("message " + message + ", no b", Desks.NO_REGISTER, () -> desk.verify(0, -1, message, 0));
        }
    }

    private static void verifyChangesNothing() {
        check.about("Promise 16: verify");
        for (int kind = 0; kind < Desks.KINDS; kind++) {
            TwistDesk desk = Desks.full(kind);
            String before = Desks.state(desk);
            for (int r = 0; r < Desks.REGISTERS; r++) {
                desk.verify(r, 11 - r, r, desk.sign(r, r, r));
                desk.verify(r, r, r, -1);
            }
            check.due("the state after it", Desks.state(desk), before);
        }
    }

    private static void countElse() {
        check.about("Promise 17: Else -1");
        for (int kind = 0; kind < Desks.KINDS; kind++) {
            TwistDesk desk = Desks.full(kind);
            for (int what : new int[] {-1, -2, 5, 6, 11, 12, 256, 65536, Integer.MIN_VALUE, Integer.MAX_VALUE}) {
                check.due("count " + what, desk.count(what), -1);
            }
        }
    }

    private static void countOfRegisters() {
        check.about("Promise 17: 4 REGISTERS that are not NEUTRAL");
        for (int kind = 0; kind < Desks.KINDS; kind++) {
            TwistDesk desk = Desks.of(kind);
            for (int r = 0; r < Desks.REGISTERS; r++) {
                check.due("before " + r, desk.count(4), r);
                desk.put(r, 0, PRIMES[kind] - 1);
            }
            check.due("all", desk.count(4), 12);
            for (int r = 0; r < Desks.REGISTERS; r++) {
                desk.join(r, r, r, false);
                check.due("NEUTRAL again up to " + r, desk.count(4), 11 - r);
            }
        }
    }
}
