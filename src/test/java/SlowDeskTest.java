import java.util.Random;
import java.util.function.LongSupplier;

/**
 * Runs of 512 calls, as many as the document allows, chosen by a fixed seed, on TwistDesk and on SlowDesk: every
 * answer is looked at, one register after each call, and the whole state at the end.
 */
public final class SlowDeskTest {
    private static final int CALLS = 512;
    /** A turn's dearest way, signing and reading back, and a look at a register. */
    private static final int CALLS_OF_A_TURN = 4 + 3;
    private static final int CALLS_OF_THE_STATE = 29;
    private static final int[] RUNS = {300, 300, 300, 60, 20};
    private static final int TOP = Desks.TOP;

    private final Check check;
    private final Random random;
    private final TwistDesk desk = new TwistDesk();
    private final SlowDesk slow = new SlowDesk();
    private final int ownKind;
    private int calls = 0;
    private long lastSignature = 0;
    private int lastMessage = 0;

    private SlowDeskTest(Check check, int ownKind, long seed) {
        this.check = check;
        this.ownKind = ownKind;
        this.random = new Random(seed);
    }

    public static void main(String[] args) {
        Check check = new Check("SlowDeskTest");
        for (int kind = 0; kind < RUNS.length; kind++) {
            for (int run = 0; run < RUNS[kind]; run++) {
                new SlowDeskTest(check, kind, 1000L * kind + run).run();
            }
        }
        check.end();
    }

    private void run() {
        same("begin " + ownKind, () -> desk.begin(ownKind), () -> slow.begin(ownKind));
        while (calls + CALLS_OF_A_TURN + CALLS_OF_THE_STATE <= CALLS) {
            if (random.nextInt(20) == 0) {
                signAndVerify();
            } else {
                oneCall(random.nextInt(18));
            }
            sameRegister(random.nextInt(Desks.REGISTERS));
        }
        sameState();
    }

    private void oneCall(int which) {
        int to = register();
        int a = register();
        int b = register();
        long m = factor();
        long n = factor();
        boolean flag = random.nextBoolean();
        switch (which) {
            case 0 -> begin();
            case 1 -> put(to);
            case 2, 3, 4 -> unpack(to);
            case 5 -> same("packed " + a, () -> desk.packed(a), () -> slow.packed(a));
            case 6 -> same("get " + a, () -> desk.get(a, flag), () -> slow.get(a, flag));
            case 7 -> same("join " + to + " " + a + " " + b + " " + flag,
                () -> desk.join(to, a, b, flag), () -> slow.join(to, a, b, flag));
            case 8 -> same("times " + to + " " + n + " " + a, () -> desk.times(to, n, a), () -> slow.times(to, n, a));
            case 9 -> same("both " + to + " " + m + " " + a + " " + n + " " + b,
                () -> desk.both(to, m, a, n, b), () -> slow.both(to, m, a, n, b));
            case 10 -> same("order " + a, () -> desk.order(a), () -> slow.order(a));
            case 11 -> same("points", desk::points, slow::points);
            case 12 -> same("base", desk::base, slow::base);
            case 13 -> same("log " + a + " " + b, () -> desk.log(a, b), () -> slow.log(a, b));
            case 14 -> same("half " + to + " " + a, () -> desk.half(to, a), () -> slow.half(to, a));
            case 15 -> sign(a);
            case 16 -> verify(a, b);
            default -> count();
        }
    }

    private void begin() {
        // Seldom, so that the registers have time to fill.
        int kind = random.nextInt(4) > 0 ? random.nextInt(9) + 5 : random.nextInt(3) > 0 ? ownKind : random.nextInt(3);
        same("begin " + kind, () -> desk.begin(kind), () -> slow.begin(kind));
    }

    private void put(int r) {
        int p = slow.count(1);
        int from = random.nextInt(12);
        boolean real = random.nextBoolean();
        int x = real ? slow.get(from, false) : random.nextInt(p + 4) - 2;
        int y = real ? slow.get(from, true) : random.nextInt(p + 4) - 2;
        int turned = random.nextBoolean() ? x : p - x;
        same("put " + r + " " + turned + " " + y, () -> {
            desk.put(r, turned, y);
            return 0;
        }, () -> {
            slow.put(r, turned, y);
            return 0;
        });
    }

    private void unpack(int r) {
        int p = slow.count(1);
        int packed = random.nextInt(8) == 0 ? random.nextInt() >> random.nextInt(32)
            : random.nextInt(p + 2) - 1 + 8192 * random.nextInt(2);
        same("unpack " + r + " " + packed, () -> {
            desk.unpack(r, packed);
            return 0;
        }, () -> {
            slow.unpack(r, packed);
            return 0;
        });
    }

    private void sign(int a) {
        int key = number();
        int message = number();
        same("sign " + a + " " + key + " " + message, () -> desk.sign(a, key, message), () -> slow.sign(a, key, message));
    }

    private void verify(int a, int b) {
        long signature = switch (random.nextInt(4)) {
            case 0 -> random.nextLong() >> random.nextInt(64);
            case 1 -> lastSignature;
            case 2 -> lastSignature ^ (1L << random.nextInt(64));
            default -> ((long) random.nextInt(slow.count(1)) << 16) + random.nextInt(65536);
        };
        int message = random.nextBoolean() ? lastMessage : number();
        same("verify " + a + " " + b + " " + message + " " + signature,
            () -> desk.verify(a, b, message, signature) ? 1 : 0, () -> slow.verify(a, b, message, signature) ? 1 : 0);
    }

    private void signAndVerify() {
        int a = random.nextInt(12);
        int b = (a + 1 + random.nextInt(11)) % 12;
        int key = random.nextInt(TOP);
        int message = random.nextInt(TOP);
        if (slow.packed(a) == Desks.NEUTRAL) {
            return;
        }
        same("times", () -> desk.times(b, key, a), () -> slow.times(b, key, a));
        same("sign", () -> desk.sign(a, key, message), () -> slow.sign(a, key, message));
        lastSignature = slow.sign(a, key, message);
        lastMessage = message;
        same("verify of what is signed", () -> desk.verify(a, b, message, lastSignature) ? 1 : 0, () -> 1);
        same("verify", () -> desk.verify(a, b, message, lastSignature) ? 1 : 0,
            () -> slow.verify(a, b, message, lastSignature) ? 1 : 0);
    }

    private void count() {
        int what = random.nextInt(8) - 1;
        same("count " + what, () -> desk.count(what), () -> slow.count(what));
    }

    private int register() {
        return random.nextInt(40) == 0 ? (random.nextBoolean() ? -1 : 12) : random.nextInt(12);
    }

    private long factor() {
        return switch (random.nextInt(6)) {
            case 0 -> Long.MIN_VALUE + random.nextInt(3);
            case 1 -> Long.MAX_VALUE - random.nextInt(3);
            case 2 -> random.nextInt(7) - 3;
            case 3 -> (random.nextInt(5) - 2L) * slow.points() + random.nextInt(3) - 1;
            default -> random.nextLong() >> random.nextInt(64);
        };
    }

    private int number() {
        return switch (random.nextInt(6)) {
            case 0 -> TOP - random.nextInt(4) + 1;
            case 1 -> random.nextInt(5) - 1;
            case 2 -> random.nextInt(3 * slow.points());
            default -> random.nextInt(TOP);
        };
    }

    private void same(String call, LongSupplier fast, LongSupplier reference) {
        calls++;
        check.due("kind " + slow.count(0) + ": " + call, outcome(fast), outcome(reference));
    }

    private void sameRegister(int r) {
        same("x in " + r, () -> desk.get(r, false), () -> slow.get(r, false));
        same("y in " + r, () -> desk.get(r, true), () -> slow.get(r, true));
        same("registers in use", () -> desk.count(4), () -> slow.count(4));
    }

    private void sameState() {
        for (int what = 0; what <= 4; what++) {
            check.due("count " + what, desk.count(what), slow.count(what));
        }
        for (int r = 0; r < Desks.REGISTERS; r++) {
            check.due("x in " + r, desk.get(r, false), slow.get(r, false));
            check.due("y in " + r, desk.get(r, true), slow.get(r, true));
        }
    }

    private static String outcome(LongSupplier call) {
        try {
            return Long.toString(call.getAsLong());
        } catch (RuntimeException e) {
            return "throws." + e.getClass().getSimpleName();
        }
    }
}
