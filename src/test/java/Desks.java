import java.util.NoSuchElementException;

/** What the tests share: desks made ready, and what was worked out of the kinds apart from the program. */
final class Desks {
    static final int KINDS = 5;
    static final int[] PRIMES = {13, 61, 109, 1009, 8101};
    static final int[] D = {2, 2, 2, 11, 2};
    static final int[] I = {5, 11, 33, 469, 90};
    static final int[] SIZES = {16, 56, 96, 1032, 8232};
    static final int[] BASES = {3, 5, 5, 10, 13};

    static final int REGISTERS = 12;
    static final int NEUTRAL = 1;
    static final int ODD = 8192;
    static final int TOP = 1 << 30;
    static final int[] NO_REGISTERS = {-1, 12, Integer.MIN_VALUE, Integer.MAX_VALUE};
    static final int[] NO_NUMBERS = {-1, TOP + 1, Integer.MIN_VALUE, Integer.MAX_VALUE};

    static final Class<NoSuchElementException> NO_REGISTER = NoSuchElementException.class;
    static final Class<IllegalArgumentException> BAD_ARGUMENT = IllegalArgumentException.class;
    static final Class<IllegalStateException> BAD_STATE = IllegalStateException.class;

    private Desks() {
    }

    static TwistDesk of(int kind) {
        TwistDesk desk = new TwistDesk();
        desk.begin(kind);
        return desk;
    }

    /** A desk of the kind with its base in register 0. */
    static TwistDesk based(int kind) {
        TwistDesk desk = of(kind);
        desk.unpack(0, BASES[kind]);
        return desk;
    }

    /** A desk of the kind with no register NEUTRAL: register r holds r + 1 times the base. */
    static TwistDesk full(int kind) {
        TwistDesk desk = based(kind);
        for (int r = 1; r < REGISTERS; r++) {
            desk.times(r, r + 1, 0);
        }
        return desk;
    }

    /** All that can be asked of a desk without giving it an argument that could matter: 29 calls. */
    static String state(TwistDesk desk) {
        StringBuilder text = new StringBuilder();
        for (int what = 0; what <= 4; what++) {
            text.append(desk.count(what)).append(' ');
        }
        for (int r = 0; r < REGISTERS; r++) {
            text.append(desk.get(r, false)).append(',').append(desk.get(r, true)).append(' ');
        }
        return text.toString();
    }
}
