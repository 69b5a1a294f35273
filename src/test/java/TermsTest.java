import java.util.ArrayList;
import java.util.List;
import java.util.function.ObjIntConsumer;
import java.util.function.ToLongFunction;

/**
 * The sentences under "What it is" and "Terms", one method each, at the edges that they name. No object here is
 * used for more than the 512 calls that the document allows.
 */
public final class TermsTest {
    private static final int LAST_CALL = 512;
    /** Kinds whose points are so few that all of them, and all pairs, are looked at. */
    private static final int SMALL_KINDS = 3;

    private static final Check check = new Check("TermsTest");

    public static void main(String[] args) {
        lastCall();
        kinds();
        leastNumberThatIsNoSquare();
        leastNumberWhoseSquareIsMinusOne();
        pointsOfSmallKinds();
        pointsOfGreatKinds();
        sumsOfSmallKinds();
        sumsOfGreatKinds();
        neutral();
        other();
        timesCountsUpAndDown();
        timesAtTheEndsOfLong();
        order();
        packedOfAllPoints();
        packedAtTheEdges();
        justTheEvenOneWhereXIsZero();
        registers();
        registersThatThereAreNot();
        registersThatThereAre();
        firstNamedExceptionIsThrown();
        callThatThrowsChangesNothing();
        check.end();
    }

    private static void lastCall() {
        check.about("An object is used for at most 512 calls after it has been made");
        atLastCall("begin", desk -> desk.begin(3), 1009);
        atLastCall("put", desk -> {
            desk.put(11, 6408, 13);
            return 0;
        }, 0);
        atLastCall("unpack", desk -> {
            desk.unpack(11, 14317);
            return 0;
        }, 0);
        atLastCall("packed", desk -> desk.packed(0), 13);
        atLastCall("get", desk -> desk.get(0, false), 6408);
        atLastCall("join", desk -> desk.join(2, 0, 0, false), 14317);
        atLastCall("times", desk -> desk.times(2, Long.MIN_VALUE, 0), 4077);
        atLastCall("both", desk -> desk.both(2, -4, 0, 1, 1), 7983);
        atLastCall("order", desk -> desk.order(0), 8232);
        atLastCall("points", TwistDesk::points, 8232);
        atLastCall("base", TwistDesk::base, 13);
        atLastCall("log", desk -> desk.log(0, 1), 7);
        atLastCall("half", desk -> desk.half(2, 11), 2);
        atLastCall("sign", desk -> desk.sign(0, 7, 41), 844955683L);
        atLastCall("verify", desk -> desk.verify(0, 1, 41, 844955683L) ? 1 : 0, 1);
        atLastCall("count", desk -> desk.count(4), 12);
    }

    private static void atLastCall(String name, ToLongFunction<TwistDesk> call, long want) {
        TwistDesk desk = usedButForOneCall();
        check.due(name + " as call 512", outcome(desk, call), Long.toString(want));
    }

    /** Kind 4, full, with 7 times the base in register 1, after 511 calls. */
    private static TwistDesk usedButForOneCall() {
        TwistDesk desk = Desks.full(4);
        desk.times(1, 7, 0);
        int calls = 2 + 11 + 1;
        while (calls < LAST_CALL - 1) {
            switch (calls % 4) {
                case 0 -> desk.log(0, 1);
                case 1 -> desk.half(2, 5);
                case 2 -> desk.times(2, 3, 0);
                default -> desk.sign(0, calls, calls);
            }
            calls++;
        }
        return desk;
    }

    private static void kinds() {
        check.about("KIND 0 .. 4 (0 at first): P 13, 61, 109, 1009, 8101");
        check.due("kind at first", new TwistDesk().count(0), 0);
        check.due("P at first", new TwistDesk().count(1), 13);
        TwistDesk desk = new TwistDesk();
        for (int kind = 0; kind < Desks.KINDS; kind++) {
            check.due("P of " + kind, desk.begin(kind), Desks.PRIMES[kind]);
            check.due("kind " + kind, desk.count(0), kind);
        }
    }

    private static void leastNumberThatIsNoSquare() {
        check.about("D: the least number from 2 on that is no square modulo P");
        for (int kind = 0; kind < Desks.KINDS; kind++) {
            int d = Desks.of(kind).count(2);
            check.due("D of " + kind, d, Desks.D[kind]);
            for (int n = 2; n <= d; n++) {
                check.due(n + " is a square, kind " + kind, isSquare(n, Desks.PRIMES[kind]), n < d);
            }
        }
    }

    private static boolean isSquare(int n, int p) {
        for (int root = 0; root < p; root++) {
            if (root * root % p == n) {
                return true;
            }
        }
        return false;
    }

    private static void leastNumberWhoseSquareIsMinusOne() {
        check.about("i: the least number from 2 on whose square is -1");
        for (int kind = 0; kind < Desks.KINDS; kind++) {
            int p = Desks.PRIMES[kind];
            int i = Desks.of(kind).count(3);
            check.due("i of " + kind, i, Desks.I[kind]);
            for (int n = 2; n <= i; n++) {
                check.due("the square of " + n + " is -1, kind " + kind, n * n % p == p - 1, n == i);
            }
        }
    }

    private static void pointsOfSmallKinds() {
        check.about("POINTS (x, y), numbers 0 .. P - 1, with - x x + y y = 1 + D x x y y modulo P");
        for (int kind = 0; kind < SMALL_KINDS; kind++) {
            int p = Desks.PRIMES[kind];
            for (int x = -p; x < 2 * p; x++) {
                putColumn(kind, x, -p, 2 * p);
            }
        }
    }

    private static void pointsOfGreatKinds() {
        check.about("POINTS (x, y), numbers 0 .. P - 1, with - x x + y y = 1 + D x x y y modulo P");
        for (int kind = SMALL_KINDS; kind < Desks.KINDS; kind++) {
            int p = Desks.PRIMES[kind];
            int ofBase = Desks.based(kind).get(0, false);
            int[] columns = {-1, 0, 1, Desks.I[kind], p - Desks.I[kind], ofBase, ofBase + p, p - 1, p};
            for (int x : columns) {
                for (int from = -100; from <= p + 100; from += 400) {
                    putColumn(kind, x, from, from + 400);
                }
            }
        }
    }

    private static void putColumn(int kind, int x, int from, int end) {
        TwistDesk desk = Desks.of(kind);
        for (int y = from; y < end; y++) {
            int second = y;
            String call = "put " + x + " " + y + ", kind " + kind;
            if (isPoint(kind, x, y)) {
                check.nothingThrown(call, () -> desk.put(0, x, second));
            } else {
                check.throwsDue(call, Desks.BAD_ARGUMENT, () -> desk.put(0, x, second));
            }
        }
    }

    private static boolean isPoint(int kind, long x, long y) {
        int p = Desks.PRIMES[kind];
        boolean inside = x >= 0 && x < p && y >= 0 && y < p;
        return inside && (-x * x + y * y - 1 - Desks.D[kind] * x * x * y * y) % p == 0;
    }

    private static List<int[]> allPoints(int kind) {
        List<int[]> all = new ArrayList<>();
        for (int x = 0; x < Desks.PRIMES[kind]; x++) {
            for (int y = 0; y < Desks.PRIMES[kind]; y++) {
                if (isPoint(kind, x, y)) {
                    all.add(new int[] {x, y});
                }
            }
        }
        return all;
    }

    private static void sumsOfSmallKinds() {
        check.about("SUM of (x, y) and (u, v)");
        for (int kind = 0; kind < SMALL_KINDS; kind++) {
            List<int[]> all = allPoints(kind);
            check.due("how many points, kind " + kind, all.size(), Desks.SIZES[kind]);
            for (int[] first : all) {
                sumsWith(kind, first, all);
            }
        }
    }

    private static void sumsOfGreatKinds() {
        check.about("SUM of (x, y) and (u, v)");
        for (int kind = SMALL_KINDS; kind < Desks.KINDS; kind++) {
            int p = Desks.PRIMES[kind];
            TwistDesk desk = Desks.based(kind);
            List<int[]> some = new ArrayList<>();
            some.add(new int[] {0, 1});
            some.add(new int[] {0, p - 1});
            some.add(new int[] {Desks.I[kind], 0});
            some.add(new int[] {p - Desks.I[kind], 0});
            for (int n = -40; n <= 40; n++) {
                desk.times(1, n, 0);
                some.add(new int[] {desk.get(1, false), desk.get(1, true)});
            }
            for (int[] first : some) {
                sumsWith(kind, first, some);
            }
        }
    }

    private static void sumsWith(int kind, int[] first, List<int[]> others) {
        TwistDesk desk = Desks.of(kind);
        desk.put(0, first[0], first[1]);
        for (int[] second : others) {
            desk.put(1, second[0], second[1]);
            desk.join(2, 0, 1, false);
            String call = "(" + first[0] + ", " + first[1] + ") and (" + second[0] + ", " + second[1] + ")";
            check.due(call + ", kind " + kind, isSum(kind, first, second, desk.get(2, false), desk.get(2, true)), true);
        }
    }

    /** The divisors are multiplied instead, so that nothing of the program's way to divide is needed. */
    private static boolean isSum(int kind, int[] a, int[] b, long sumX, long sumY) {
        int p = Desks.PRIMES[kind];
        long x = a[0];
        long y = a[1];
        long u = b[0];
        long v = b[1];
        long t = Desks.D[kind] * x % p * y % p * u % p * v % p;
        boolean firstHolds = (sumX * (1 + t) - x * v - y * u) % p == 0;
        boolean secondHolds = (sumY * (1 - t) - y * v - x * u) % p == 0;
        return isPoint(kind, sumX, sumY) && firstHolds && secondHolds;
    }

    private static void neutral() {
        check.about("NEUTRAL: (0, 1)");
        for (int kind = 0; kind < Desks.KINDS; kind++) {
            TwistDesk desk = Desks.of(kind);
            check.due("x", desk.get(0, false), 0);
            check.due("y", desk.get(0, true), 1);
            check.due("NEUTRAL and NEUTRAL", desk.join(1, 0, 0, false), Desks.NEUTRAL);
            desk.unpack(2, Desks.BASES[kind]);
            check.due("NEUTRAL and the base", desk.join(3, 0, 2, false), Desks.BASES[kind]);
            check.due("the base and NEUTRAL", desk.join(3, 2, 0, false), Desks.BASES[kind]);
            check.due("the base less NEUTRAL", desk.join(3, 2, 0, true), Desks.BASES[kind]);
            desk.put(2, 0, Desks.PRIMES[kind] - 1);
            check.due("(0, -1) is not NEUTRAL", desk.count(4), 2);
            check.due("(0, -1) twice", desk.join(3, 2, 2, false), Desks.NEUTRAL);
        }
    }

    private static void other() {
        check.about("the OTHER of (x, y) is (-x, y)");
        for (int kind = 0; kind < Desks.KINDS; kind++) {
            int p = Desks.PRIMES[kind];
            int i = Desks.I[kind];
            otherOf(kind, 0, 1, 0);
            otherOf(kind, 0, p - 1, 0);
            otherOf(kind, i, 0, p - i);
            otherOf(kind, p - i, 0, i);
        }
        for (int kind = 0; kind < SMALL_KINDS; kind++) {
            for (int[] point : allPoints(kind)) {
                otherOf(kind, point[0], point[1], point[0] == 0 ? 0 : Desks.PRIMES[kind] - point[0]);
            }
        }
    }

    private static void otherOf(int kind, int x, int y, int want) {
        TwistDesk desk = Desks.of(kind);
        desk.put(0, x, y);
        String of = " of (" + x + ", " + y + "), kind " + kind;
        desk.join(1, 11, 0, true);
        check.due("NEUTRAL less, x" + of, desk.get(1, false), want);
        check.due("NEUTRAL less, y" + of, desk.get(1, true), y);
        desk.times(2, -1, 0);
        check.due("-1 times, x" + of, desk.get(2, false), want);
        check.due("-1 times, y" + of, desk.get(2, true), y);
    }

    private static void timesCountsUpAndDown() {
        check.about("n TIMES a POINT: n of it added, below 0 of its OTHER");
        for (int kind = 0; kind < Desks.KINDS; kind++) {
            TwistDesk desk = Desks.based(kind);
            for (int n = 0; n <= 100; n++) {
                check.due(n + " times, kind " + kind, desk.times(2, n, 0), desk.packed(1));
                check.due("-" + n + " times, kind " + kind, desk.times(2, -n, 0), desk.join(3, 11, 1, true));
                // Register 11 stays NEUTRAL: 0 of a point added.
                desk.join(1, 1, 0, false);
            }
        }
        for (int kind = 0; kind < Desks.KINDS; kind++) {
            TwistDesk desk = Desks.based(kind);
            long size = Desks.SIZES[kind];
            for (long many : new long[] {-3 * size, -size, 0, size, 2 * size, size << 40, -(size << 40)}) {
                check.due(many + " times", desk.times(1, many, 0), Desks.NEUTRAL);
                check.due(many + " and 1 times", desk.times(1, many + 1, 0), Desks.BASES[kind]);
                check.due(many + " less 1 times", desk.times(1, many - 1, 0), Desks.BASES[kind] + Desks.ODD);
            }
        }
    }

    private static void timesAtTheEndsOfLong() {
        check.about("(-2^63: 2^63 of its OTHER)");
        long[] factors = {Long.MIN_VALUE, Long.MIN_VALUE + 1, Long.MAX_VALUE, 1L << 62, 1L << 32, 1L << 31, -1L << 31};
        int[][] due = {
            {1, 3, 8195, 1, 1, 1, 1},
            {8219, 8212, 20, 52, 52, 8240, 48},
            {8243, 36, 8228, 8243, 8243, 51, 8243},
            {950, 8996, 804, 8410, 8318, 8618, 426},
            {4077, 7113, 15305, 10317, 3660, 5689, 13881}};
        for (int kind = 0; kind < Desks.KINDS; kind++) {
            TwistDesk desk = Desks.based(kind);
            for (int n = 0; n < factors.length; n++) {
                check.due(factors[n] + " times, kind " + kind, desk.times(1, factors[n], 0), due[kind][n]);
            }
            desk.times(1, 1L << 62, 0);
            desk.join(1, 1, 1, false);
            check.due("2^62 times twice, the other", desk.join(2, 11, 1, true), due[kind][0]);
            check.due("both with -2^63", desk.both(2, Long.MIN_VALUE, 0, 0, 0), due[kind][0]);
            check.due("both, second with -2^63", desk.both(2, 0, 0, Long.MIN_VALUE, 0), due[kind][0]);
            check.due("-2^63 times NEUTRAL", desk.times(2, Long.MIN_VALUE, 11), Desks.NEUTRAL);
        }
    }

    private static void order() {
        check.about("ORDER: the least n from 1 on with n TIMES it NEUTRAL");
        for (int kind = 0; kind < SMALL_KINDS; kind++) {
            for (int[] point : allPoints(kind)) {
                TwistDesk desk = Desks.of(kind);
                desk.put(0, point[0], point[1]);
                int n = 1;
                while (n < Desks.SIZES[kind] && desk.times(1, n, 0) != Desks.NEUTRAL) {
                    n++;
                }
                check.due("of (" + point[0] + ", " + point[1] + "), kind " + kind, desk.order(0), n);
            }
        }
        for (int kind = 0; kind < Desks.KINDS; kind++) {
            TwistDesk desk = Desks.of(kind);
            check.due("of NEUTRAL", desk.order(0), 1);
            desk.put(0, 0, Desks.PRIMES[kind] - 1);
            check.due("of (0, -1)", desk.order(0), 2);
            desk.put(0, Desks.I[kind], 0);
            check.due("of (i, 0)", desk.order(0), 4);
            desk.unpack(0, Desks.BASES[kind]);
            check.due("of the base", desk.order(0), Desks.SIZES[kind]);
        }
    }

    private static void packedOfAllPoints() {
        check.about("PACKED: y + 8192 (x modulo 2)");
        for (int kind = 0; kind < SMALL_KINDS; kind++) {
            for (int[] point : allPoints(kind)) {
                packedOf(kind, point[0], point[1], point[1] + 8192 * (point[0] % 2));
            }
        }
    }

    private static void packedAtTheEdges() {
        check.about("PACKED: y + 8192 (x modulo 2)");
        packedOf(4, 90, 0, 0);
        packedOf(4, 8011, 0, 8192);
        packedOf(4, 0, 1, 1);
        packedOf(4, 0, 8100, 8100);
        packedOf(4, 3434, 8099, 8099);
        packedOf(4, 4667, 8099, 16291);
        packedOf(4, 8099, 7029, 15221);
        packedOf(3, 1008, 891, 891);
        packedOf(3, 473, 1007, 9199);
    }

    private static void packedOf(int kind, int x, int y, int want) {
        TwistDesk desk = Desks.of(kind);
        desk.put(0, x, y);
        check.due("(" + x + ", " + y + "), kind " + kind, desk.packed(0), want);
        desk.unpack(1, want);
        check.due(want + " read back, x", desk.get(1, false), x);
        check.due(want + " read back, y", desk.get(1, true), y);
    }

    private static void justTheEvenOneWhereXIsZero() {
        check.about("(Where x is 0 just the even one is there.)");
        for (int kind = 0; kind < Desks.KINDS; kind++) {
            TwistDesk desk = Desks.of(kind);
            for (int y : new int[] {1, Desks.PRIMES[kind] - 1}) {
                check.nothingThrown("unpack " + y, () -> desk.unpack(0, y));
                check.due("x", desk.get(0, false), 0);
                check.due("y", desk.get(0, true), y);
                check.throwsDue("unpack 8192 + " + y, Desks.BAD_ARGUMENT, () -> desk.unpack(0, 8192 + y));
                check.due("y stays", desk.get(0, true), y);
            }
        }
    }

    private static void registers() {
        check.about("REGISTERS 0 .. 11 hold a POINT each, NEUTRAL at first");
        TwistDesk first = new TwistDesk();
        for (int r = 0; r < Desks.REGISTERS; r++) {
            check.due("at first, " + r, first.packed(r), Desks.NEUTRAL);
        }
        TwistDesk desk = Desks.full(4);
        for (int r = 0; r < Desks.REGISTERS; r++) {
            check.due("holds its own, " + r, desk.log(0, r), r + 1);
        }
    }

    /** A call with one of its registers left open. */
    private record Open(String name, ObjIntConsumer<TwistDesk> call) {
    }

    /** The argument of each call is right but for the register, on a desk with no register NEUTRAL. */
    private static Open[] openCalls() {
        return new Open[] {
            new Open("put", (desk, r) -> desk.put(r, 0, 1)),
            new Open("unpack", (desk, r) -> desk.unpack(r, 1)),
            new Open("packed", (desk, r) -> desk.packed(r)),
            new Open("get x", (desk, r) -> desk.get(r, false)),
            new Open("get y", (desk, r) -> desk.get(r, true)),
            new Open("join to", (desk, r) -> desk.join(r, 0, 1, false)),
            new Open("join a", (desk, r) -> desk.join(0, r, 1, false)),
            new Open("join b", (desk, r) -> desk.join(0, 1, r, false)),
            new Open("join less b", (desk, r) -> desk.join(0, 1, r, true)),
            new Open("times to", (desk, r) -> desk.times(r, 1, 0)),
            new Open("times a", (desk, r) -> desk.times(0, 1, r)),
            new Open("times 0 a", (desk, r) -> desk.times(0, 0, r)),
            new Open("both to", (desk, r) -> desk.both(r, 1, 0, 1, 1)),
            new Open("both a", (desk, r) -> desk.both(0, 1, r, 1, 1)),
            new Open("both 0 a", (desk, r) -> desk.both(0, 0, r, 1, 1)),
            new Open("both b", (desk, r) -> desk.both(0, 1, 1, 1, r)),
            new Open("both 0 b", (desk, r) -> desk.both(0, 1, 1, 0, r)),
            new Open("order", (desk, r) -> desk.order(r)),
            new Open("log a", (desk, r) -> desk.log(r, 1)),
            new Open("log b", (desk, r) -> desk.log(1, r)),
            // Register 0 holds the base, which has no half: the register that would stay is looked at, too.
            new Open("half to", (desk, r) -> desk.half(r, 1)),
            new Open("half to, none", (desk, r) -> desk.half(r, 0)),
            new Open("half a", (desk, r) -> desk.half(0, r)),
            new Open("sign", (desk, r) -> desk.sign(r, 0, 0)),
            new Open("verify a", (desk, r) -> desk.verify(r, 1, 0, 1 << 16)),
            new Open("verify b", (desk, r) -> desk.verify(1, r, 0, 1 << 16)),
            new Open("verify a, below 0", (desk, r) -> desk.verify(r, 1, 0, -1)),
            new Open("verify b, below 0", (desk, r) -> desk.verify(1, r, 0, -1))};
    }

    private static void registersThatThereAreNot() {
        check.about("All calls: NoSuchElementException: a REGISTER that there is not");
        for (Open open : openCalls()) {
            for (int r : Desks.NO_REGISTERS) {
                TwistDesk desk = Desks.full(1);
                String before = Desks.state(desk);
                check.throwsDue(open.name + " " + r, Desks.NO_REGISTER, () -> open.call.accept(desk, r));
                check.due(open.name + " " + r + ", the state after it", Desks.state(desk), before);
            }
        }
    }

    private static void registersThatThereAre() {
        check.about("REGISTERS 0 .. 11");
        for (Open open : openCalls()) {
            for (int r = 0; r < Desks.REGISTERS; r++) {
                TwistDesk desk = Desks.full(1);
                int register = r;
                check.nothingThrown(open.name + " " + r, () -> open.call.accept(desk, register));
            }
        }
    }

    private static void firstNamedExceptionIsThrown() {
        check.about("Of several exceptions of a call the one named first in its heading is thrown");
        TwistDesk desk = Desks.of(1);
        for (int r : Desks.NO_REGISTERS) {
            check.throwsDue("put no point in " + r, Desks.NO_REGISTER, () -> desk.put(r, 1, 1));
            check.throwsDue("put x below 0 in " + r, Desks.NO_REGISTER, () -> desk.put(r, -1, 0));
            check.throwsDue("unpack none in " + r, Desks.NO_REGISTER, () -> desk.unpack(r, 8193));
            check.throwsDue("unpack below 0 in " + r, Desks.NO_REGISTER, () -> desk.unpack(r, -1));
            for (int number : Desks.NO_NUMBERS) {
                check.throwsDue("sign " + r + ", key " + number, Desks.NO_REGISTER, () -> desk.sign(r, number, 0));
                check.throwsDue("sign " + r + ", message " + number, Desks.NO_REGISTER, () -> desk.sign(r, 0, number));
                check.throwsDue("verify " + r + " 0 " + number, Desks.NO_REGISTER, () -> desk.verify(r, 0, number, 0));
                check.throwsDue("verify 0 " + r + " " + number, Desks.NO_REGISTER, () -> desk.verify(0, r, number, 0));
            }
        }
        for (int number : Desks.NO_NUMBERS) {
            check.throwsDue("sign NEUTRAL, key " + number, Desks.BAD_ARGUMENT, () -> desk.sign(0, number, 0));
            check.throwsDue("sign NEUTRAL, message " + number, Desks.BAD_ARGUMENT, () -> desk.sign(0, 0, number));
        }
    }

    private static void callThatThrowsChangesNothing() {
        check.about("a call that throws changes nothing");
        for (int kind = 0; kind < Desks.KINDS; kind++) {
            int p = Desks.PRIMES[kind];
            for (int bad : new int[] {-1, 5}) {
                refused("begin " + bad, kind, Desks.BAD_ARGUMENT, desk -> desk.begin(bad));
            }
            for (int r = 0; r < Desks.REGISTERS; r++) {
                int to = r;
                refusedPut(kind, to, 1, 1);
                refusedPut(kind, to, 0, p + 1);
                refusedUnpack(kind, to, 8193);
                refusedUnpack(kind, to, p);
                refused("join", kind, Desks.NO_REGISTER, desk -> desk.join(to, to, 12, true));
                refused("times", kind, Desks.NO_REGISTER, desk -> desk.times(to, 2, -1));
                refused("both, a", kind, Desks.NO_REGISTER, desk -> desk.both(to, 2, 12, 3, to));
                refused("both, b", kind, Desks.NO_REGISTER, desk -> desk.both(to, 2, to, 3, 12));
                refused("half", kind, Desks.NO_REGISTER, desk -> desk.half(to, 12));
                refused("sign", kind, Desks.BAD_ARGUMENT, desk -> desk.sign(to, -1, 0));
                refused("verify", kind, Desks.BAD_ARGUMENT, desk -> desk.verify(to, to, -1, 0) ? 1 : 0);
            }
            TwistDesk neutral = Desks.of(kind);
            String before = Desks.state(neutral);
            check.throwsDue("sign of NEUTRAL", Desks.BAD_STATE, () -> neutral.sign(0, 1, 1));
            check.due("the state after it", Desks.state(neutral), before);
        }
    }

    private static void refusedPut(int kind, int r, int x, int y) {
        refused("put " + r + " " + x + " " + y, kind, Desks.BAD_ARGUMENT, desk -> {
            desk.put(r, x, y);
            return 0;
        });
    }

    private static void refusedUnpack(int kind, int r, int packed) {
        refused("unpack " + r + " " + packed, kind, Desks.BAD_ARGUMENT, desk -> {
            desk.unpack(r, packed);
            return 0;
        });
    }

    private static void refused(String name, int kind, Class<? extends RuntimeException> want,
            ToLongFunction<TwistDesk> call) {
        TwistDesk desk = Desks.full(kind);
        String before = Desks.state(desk);
        check.throwsDue(name + ", kind " + kind, want, () -> call.applyAsLong(desk));
        check.due(name + ", kind " + kind + ", the state after it", Desks.state(desk), before);
    }

    private static String outcome(TwistDesk desk, ToLongFunction<TwistDesk> call) {
        try {
            return Long.toString(call.applyAsLong(desk));
        } catch (RuntimeException e) {
            return e.getClass().getSimpleName();
        }
    }
}
