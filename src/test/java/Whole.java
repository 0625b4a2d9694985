import java.util.function.Supplier;

/** All that can be asked of a mill, to hold two of them against each other. */
final class Whole {
    private static final int LOOKS = 20;
    private static final int BYTES = 512;
    private static final int MAPPED = 256;
    private static final int CODE = 3 * 1025;
    private static final int PARTS = LOOKS + BYTES + MAPPED + CODE + 1;

    /** The rest of the 512 calls that an object is good for is left to whoever makes the mill. */
    private static final int ASKED_OF_ONE = 250;

    private Whole() {
    }

    /** Mills are made anew for every few parts; both makers must always make the same one. */
    static void same(Check check, String what, Supplier<TwinMill> got, Supplier<TwinMill> due) {
        for (int from = 0; from < PARTS; from += ASKED_OF_ONE) {
            TwinMill one = got.get();
            TwinMill other = due.get();
            for (int i = from; i < from + ASKED_OF_ONE && i < PARTS; i++) {
                check.same(what + ": " + name(i), part(one, i), part(other, i));
            }
        }
    }

    private static int part(TwinMill mill, int i) {
        int rest = i;
        if (rest < LOOKS) {
            return mill.look(rest / 10, rest % 10);
        }
        rest -= LOOKS;
        if (rest < BYTES) {
            return mill.byteAt(rest / 256, rest % 256);
        }
        rest -= BYTES;
        if (rest < MAPPED) {
            return mill.mapped(rest);
        }
        rest -= MAPPED;
        return rest < CODE ? mill.code(rest / 3, rest % 3) : mill.alike() ? 1 : 0;
    }

    private static String name(int i) {
        int rest = i;
        if (rest < LOOKS) {
            return "look(" + rest / 10 + ", " + rest % 10 + ")";
        }
        rest -= LOOKS;
        if (rest < BYTES) {
            return "byteAt(" + rest / 256 + ", " + rest % 256 + ")";
        }
        rest -= BYTES;
        if (rest < MAPPED) {
            return "mapped(" + rest + ")";
        }
        rest -= MAPPED;
        return rest < CODE ? "code(" + rest / 3 + ", " + rest % 3 + ")" : "alike()";
    }
}
