/** Promise 8, and the row of each instruction. */
public final class CodeTest {
    /** For n = 6 at address 0, whose code begins at 0; address 6 holds a HALT. */
    private static final int[][] ROWS = {
        {0, 0, 0}, {1, 0, 0}, {17, 0, 0, 2, 0, 6, 8, 0, 0, 18, 0, 0}, {17, 0, 0, 4, 0, 6, 8, 0, 0, 18, 0, 0},
        {17, 0, 0, 6, 0, 6, 8, 0, 0, 18, 0, 0}, {5, 0, 6}, {7, 0, 6}, {2, 1, 6}, {3, 1, 0},
        {17, 0, 0, 3, 0, 1, 8, 0, 0, 18, 0, 0}, {17, 0, 0, 2, 2, 1, 9, 1, 2, 18, 0, 0},
        {17, 0, 0, 2, 2, 1, 11, 1, 2, 18, 0, 0}, {2, 2, 6, 9, 0, 2}, {4, 2, 6, 9, 0, 2}, {4, 2, 6, 10, 0, 2},
        {2, 2, 6, 11, 0, 2}, {4, 2, 6, 11, 0, 2}, {2, 2, 6, 12, 0, 2}, {2, 2, 6, 13, 0, 2}, {2, 2, 6, 14, 0, 2},
        {15, 0, 0}, {16, 0, 0}, {19, 0, 1}, {20, 0, 2}, {21, 0, 2}, {22, 0, 2}, {23, 0, 2},
        {2, 2, 2, 24, 2, 0, 19, 0, 4}, {25, 2, 0, 26, 2, 0}, {24, 0, 0}, {17, 0, 0, 25, 0, 0, 8, 0, 0, 18, 0, 0},
        {26, 1, 0}};

    public static void main(String[] args) {
        Check check = new Check("CodeTest");
        for (int op = 0; op < 32; op++) {
            row(check, op);
        }
        wrongInputs(check);
        targets(check);
        check.end();
    }

    private static void row(Check check, int op) {
        boolean two = Mills.isTwo(op);
        TwinMill mill = new TwinMill();
        Mills.put(mill, 0, op, two ? 6 : 1, 1);
        mill.image(6, 1);
        boolean runsOn = op != 1 && op != 22 && op != 28 && op != 31;
        int halts = (runsOn ? 1 : 0) + (op >= 22 && op <= 27 ? 1 : 0);
        int due = ROWS[op].length / 3;
        check.same("translate(0) of " + op, mill.translate(0), due + halts);
        for (int i = 0; i < ROWS[op].length; i++) {
            check.same("code(" + i / 3 + ", " + i % 3 + ") of " + op, mill.code(i / 3, i % 3), ROWS[op][i]);
        }
        for (int k = due; k < due + halts; k++) {
            check.same("the halt behind " + op, mill.code(k, 0), 1);
        }
        check.same("behind the code of " + op, mill.code(due + halts, 0), TwinMill.NONE);
    }

    private static void wrongInputs(Check check) {
        TwinMill mill = Mills.at0(2, 5, 1);
        int[] none = {-1, 5, 6, 1023, 1024, Integer.MAX_VALUE, Integer.MIN_VALUE};
        for (int k : none) {
            for (int what = 0; what < 3; what++) {
                check.same("code(" + k + ", " + what + ")", mill.code(k, what), TwinMill.NONE);
                check.same("code(" + k + ", " + what + "), new", new TwinMill().code(k, what), TwinMill.NONE);
            }
        }
        for (int what : new int[] {-1, 3, Integer.MAX_VALUE, Integer.MIN_VALUE}) {
            check.same("code(0, " + what + ")", mill.code(0, what), TwinMill.NONE);
        }
        check.same("code(4, 0)", mill.code(4, 0), 1);
        // The code of a shorter translation hides all of a longer one before it.
        mill.translate(2);
        check.same("code(0, 0)", mill.code(0, 0), 1);
        check.same("code(1, 0)", mill.code(1, 0), TwinMill.NONE);
    }

    /** Targets before and behind, in ascending order of addresses whatever the entry. */
    private static void targets(Check check) {
        TwinMill mill = new TwinMill();
        Mills.put(mill, 100, 23, 10, 27, 200, 22, 100);
        Mills.put(mill, 10, 30, 22, 200);
        Mills.put(mill, 200, 28);
        check.same("translate(100)", mill.translate(100), 4 + 1 + 1 + 3 + 1 + 2);
        int[] due = {17, 0, 0, 25, 0, 0, 8, 0, 0, 18, 0, 0, 19, 0, 10, 20, 0, 0, 2, 2, 104, 24, 2, 0, 19, 0, 10,
            19, 0, 5, 25, 2, 0, 26, 2, 0};
        for (int i = 0; i < due.length; i++) {
            check.same("code(" + i / 3 + ", " + i % 3 + ")", mill.code(i / 3, i % 3), due[i]);
        }
        check.same("second PC", mill.look(1, Mills.PC), 5);
        TwinMill odd = Mills.at0(0, 27, 3, 1);
        check.same("the address behind a call at 1", odd.code(1, 2), 3);
    }
}
