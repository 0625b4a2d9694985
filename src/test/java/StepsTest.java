import java.util.Set;

/**
 * Terms, the machines' instructions one at a time: each of the first machine's, and each of its row on the
 * second one, from many registers and flags. All that can be seen behind each of them is held against the
 * model, and what the document does not name must be as it was before.
 */
public final class StepsTest {
    private static final int[] VALUES = {0, 1, 127, 128, 255};
    private static final int[] INDEXES = {0, 1, 19, 255};
    private static final int[] BYTES = {0, 19, 255};

    /** Each beginning of the program has five instructions and ends before the one that is tried. */
    private static final int MADE_IN = 5;
    private static final int TRIED = 19;
    private static final int FAR = 90;
    private static final int TARGET = 60;

    private static final Set<Integer> MAKES_Z = Set.of(8, 9, 10, 11, 12, 13, 14, 15, 16);
    private static final Set<Integer> MAKES_C = Set.of(8, 9, 10, 11, 12, 13, 14, 15, 16, 18);
    private static final Set<Integer> MAKES_R = Set.of(2, 3, 4, 6, 9, 10, 11, 12, 13, 15, 16, 25);
    private static final Set<Integer> MAKES_SP = Set.of(24, 25);
    private static final Set<Integer> GOES = Set.of(1, 19, 20, 21, 22, 23, 26);

    private final Check check;
    private final String name;
    private final TwinMill mill = new TwinMill();
    private final Model model = new Model();

    private StepsTest(Check check, String name) {
        this.check = check;
        this.name = name;
    }

    public static void main(String[] args) {
        Check check = new Check("StepsTest");
        for (int op = 0; op < 32; op++) {
            for (int a : VALUES) {
                for (int x : INDEXES) {
                    for (int v : BYTES) {
                        tryFlags(check, op, a, x, v);
                    }
                }
            }
        }
        check.end();
    }

    /** Every pair of flags, with the kept flag as C is; then with another kept flag, where a compare can make it. */
    private static void tryFlags(Check check, int op, int a, int x, int v) {
        String what = op + " with A " + a + ", X " + x + ", byte " + v;
        for (int c = 0; c < 2; c++) {
            for (int z = 0; z < 2; z++) {
                String flags = what + ", Z " + z + ", C " + c;
                // X grows to 0 or to 1: that makes Z, and leaves A and C alone.
                new StepsTest(check, flags).steps(op, x, v, 15, c, 2, a, 7, 255 * z, 10, 7, x);
            }
        }
        for (int m : new int[] {a - 1, a, a + 1}) {
            if (m >= 0 && m <= 255) {
                String flags = what + ", compared with " + m;
                new StepsTest(check, flags).steps(op, x, v, 15, m > a ? 0 : 1, 2, a, 7, x, 0, 19, m);
            }
        }
    }

    private void put(int at, int... bytes) {
        for (int i = 0; i < bytes.length; i++) {
            mill.image(at + i, bytes[i]);
            model.image[at + i] = bytes[i];
        }
    }

    private void steps(int op, int x, int v, int... made) {
        boolean indexed = op == 4 || op == 6;
        int n = op >= 22 ? TARGET : indexed ? FAR - x & 255 : FAR;
        put(TRIED - made.length, made);
        put(TRIED, op, Mills.isTwo(op) ? n : 1, 1);
        put(TARGET, 1);
        put(FAR, v);
        // What a 28 or 30 pops, for SP is 255.
        put(0, v);
        int entry = TRIED - made.length;
        check.same(name + ": translate", mill.translate(entry), model.translate(entry));
        for (int i = 0; i < MADE_IN; i++) {
            check.same(name + ": first(1)", mill.first(1), model.first(1));
            check.same(name + ": boundary()", mill.boundary(), model.boundary());
        }
        same("before it");
        check.same(name + ": first(1)", mill.first(1), model.first(1));
        same("behind it on the first one");
        for (int i = 1; i <= 5; i++) {
            secondStep(i);
        }
    }

    private void secondStep(int i) {
        int[] was = seen();
        int number = mill.code(was[Mills.PC], 0);
        int r = mill.code(was[Mills.PC], 1);
        check.same(name + ": second(1)", mill.second(1), model.second(1));
        same("behind " + i + " on the second one");
        int[] is = seen();
        for (int part = 0; part < was.length; part++) {
            if (!mayChange(part, number, r, was[Mills.STATE])) {
                check.same(name + ": look " + part + " stays through " + number, is[part], was[part]);
            }
        }
        if (was[Mills.STATE] == Mills.GOES_ON && !GOES.contains(number)) {
            check.same(name + ": PC behind " + number, is[Mills.PC], was[Mills.PC] + 1);
        }
    }

    private static boolean mayChange(int part, int number, int r, int state) {
        if (state != Mills.GOES_ON) {
            return false;
        }
        return switch (part) {
            case Mills.A -> MAKES_R.contains(number) && r == 0;
            case Mills.X -> MAKES_R.contains(number) && r == 1;
            case Mills.R2 -> MAKES_R.contains(number) && r == 2;
            case Mills.SP -> MAKES_SP.contains(number);
            case Mills.Z -> MAKES_Z.contains(number);
            case Mills.C -> MAKES_C.contains(number);
            case Mills.KEPT -> number == 17;
            case Mills.STATE -> number == 1 || number == 26;
            default -> true;
        };
    }

    private int[] seen() {
        int[] all = new int[10];
        for (int part = 0; part < all.length; part++) {
            all[part] = mill.look(1, part);
        }
        return all;
    }

    private void same(String when) {
        for (int i = 0; i < 20; i++) {
            check.same(name + ": look(" + i / 10 + ", " + i % 10 + ") " + when, mill.look(i / 10, i % 10),
                model.look(i / 10, i % 10));
        }
        for (int a : new int[] {0, FAR, 255}) {
            check.same(name + ": byteAt(0, " + a + ") " + when, mill.byteAt(0, a), model.one.memory[a]);
            check.same(name + ": byteAt(1, " + a + ") " + when, mill.byteAt(1, a), model.two.memory[a]);
        }
        check.same(name + ": alike() " + when, mill.alike(), model.alike());
    }
}
