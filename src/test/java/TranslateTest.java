/** Promise 3; that a refused translation changes nothing is in NothingChangesTest. */
public final class TranslateTest {
    public static void main(String[] args) {
        Check check = new Check("TranslateTest");
        TwinMill mill = new TwinMill();
        for (int entry : new int[] {-1, 256, Integer.MIN_VALUE, Integer.MAX_VALUE}) {
            check.throwing("translate(" + entry + ")", IllegalArgumentException.class, () -> mill.translate(entry));
        }
        unknown(check);
        overlap(check);
        runOff(check);
        edges(check);
        reachOf(check);
        beginsAnew(check);
        longest(check);
        check.end();
    }

    private static int translated(int entry, int start, int... bytes) {
        TwinMill mill = new TwinMill();
        Mills.put(mill, start, bytes);
        return mill.translate(entry);
    }

    private static void unknown(Check check) {
        check.same("32 is unknown", translated(0, 0, 32), -1000);
        check.same("255 is unknown", translated(0, 0, 0, 255), -1001);
        check.same("31 is known", translated(0, 0, 31), 1);
        check.same("the least unknown", translated(0, 0, 23, 9, 40, 0, 0, 0, 0, 0, 0, 41), -1002);
        check.same("an unknown before an overlap", translated(0, 0, 23, 1, 200), -1002);
        check.same("an unknown second byte is fine", translated(0, 0, 2, 200, 1), 5);
        check.same("an unknown that is not reached", translated(0, 0, 1, 200), 1);
    }

    private static void overlap(Check check) {
        check.same("into the own second byte", translated(0, 0, 22, 1), -2001);
        check.same("the least second byte", translated(0, 0, 23, 7, 23, 3, 1, 0, 7, 1), -2003);
        check.same("an overlap before a run off", translated(0, 0, 23, 5, 0, 0, 7, 28), -2005);
        // 255 holds a two-byte instruction whose second byte is the one at 0.
        TwinMill mill = new TwinMill();
        Mills.put(mill, 0, 1, 1);
        Mills.put(mill, 253, 22, 255, 22);
        check.same("255 behind 253's transfer, to 1", mill.translate(253), -3255);
        mill.image(0, 0);
        check.same("0 is 255's second byte", mill.translate(253), -2000);
    }

    private static void runOff(Check check) {
        for (int op = 0; op < 32; op++) {
            boolean two = Mills.isTwo(op);
            TwinMill mill = new TwinMill();
            // Address 0 holds a HALT, at which an instruction at 254 or 255 may arrive.
            Mills.put(mill, 0, 1);
            Mills.put(mill, 254, op, two ? 0 : 1);
            boolean refused = two && op != 22 && op != 27;
            int got = mill.translate(254);
            check.same("254 holds " + op, got < 0 ? got : 0, refused ? -3254 : 0);
            mill.image(255, op);
            boolean fine = op == 1 || op == 28 || op == 31;
            // Here 255 is reached from no other address; 22 to 27 lead from it to 1, and on to the end.
            check.same("255 holds " + op, mill.translate(255) > 0, fine);
        }
        TwinMill both = new TwinMill();
        Mills.put(both, 0, 23, 255, 1);
        Mills.put(both, 254, 0, 29);
        check.same("255 holds 29", both.translate(0), -3255);
    }

    private static void edges(Check check) {
        TwinMill mill = new TwinMill();
        Mills.put(mill, 0, 1);
        Mills.put(mill, 254, 27, 4);
        Mills.put(mill, 4, 28);
        check.same("a call at 254", mill.translate(254), 6);
        check.same("the address behind 254", mill.code(mill.mapped(254), 2), 0);
        check.same("0 is mapped behind 254", mill.mapped(0), 0);
        check.same("second PC", mill.look(1, Mills.PC), 3);
        check.same("first PC", mill.look(0, Mills.PC), 254);
        Mills.put(mill, 253, 2, 8, 1);
        check.same("two bytes at 253, then 255", mill.translate(253), 5);
    }

    private static void reachOf(Check check) {
        int[][] rows = {{1, 0}, {22, 0}, {28, 0}, {31, 0}, {0, 1}, {8, 1}, {20, 1}, {29, 1}, {30, 1}, {2, 2}, {7, 2},
            {12, 2}, {19, 2}, {23, 2}, {24, 2}, {25, 2}, {26, 2}, {27, 2}};
        for (int[] row : rows) {
            TwinMill mill = new TwinMill();
            Mills.put(mill, 10, row[0], 50, 1);
            Mills.put(mill, 50, 1);
            if (row[1] == 1) {
                mill.image(11, 1);
            }
            mill.translate(10);
            check.same("11 reached from " + row[0], mill.mapped(11) != TwinMill.NONE, row[1] == 1);
            check.same("12 reached from " + row[0], mill.mapped(12) != TwinMill.NONE, row[1] == 2);
            boolean target = row[0] >= 22 && row[0] <= 27;
            check.same("50 reached from " + row[0], mill.mapped(50) != TwinMill.NONE, target);
        }
    }

    private static void beginsAnew(Check check) {
        TwinMill mill = Mills.at0(2, 4, 15, 5, 29, 5, 90, 7, 255, 10, 1);
        mill.first(300);
        mill.second(300);
        for (int machine = 0; machine < 2; machine++) {
            check.same("Z, C and halted", mill.look(machine, Mills.Z) + mill.look(machine, Mills.C)
                + mill.look(machine, Mills.STATE), 3);
        }
        check.same("kept, R2", mill.look(1, Mills.KEPT) + mill.look(1, Mills.R2), 2);
        Mills.put(mill, 8, 12, 1, 9, 1);
        check.same("translate(8)", mill.translate(8), 7);
        for (int machine = 0; machine < 2; machine++) {
            for (int what = 0; what < 10; what++) {
                int due = what == Mills.SP ? 255 : what == Mills.PC && machine == 0 ? 8 : 0;
                check.same("look(" + machine + ", " + what + ") anew", mill.look(machine, what), due);
            }
            check.same("byteAt(" + machine + ", 90) anew", mill.byteAt(machine, 90), 0);
            check.same("byteAt(" + machine + ", 255) anew", mill.byteAt(machine, 255), 0);
            check.same("byteAt(" + machine + ", 0) anew", mill.byteAt(machine, 0), 2);
        }
        check.same("mapped(0) anew", mill.mapped(0), TwinMill.NONE);
        check.same("code(7, 0) anew", mill.code(7, 0), TwinMill.NONE);
        check.same("alike anew", mill.alike(), true);
        // A failed machine begins anew too.
        mill.image(0, 31);
        mill.image(250, 31);
        mill.translate(250);
        mill.second(3);
        check.same("failed", mill.look(1, Mills.STATE), 2);
        mill.translate(250);
        check.same("no more failed", mill.look(1, Mills.STATE), 0);
    }

    private static void longest(Check check) {
        TwinMill mill = new TwinMill();
        for (int a = 0; a < 255; a++) {
            mill.image(a, 9 + a % 3);
        }
        mill.image(255, 28);
        check.same("the longest code", mill.translate(0), 1022);
        check.same("its last instruction", mill.code(1021, 0), 26);
        check.same("behind it", mill.code(1022, 0), TwinMill.NONE);
        check.same("where 255's begins", mill.mapped(255), 1020);
        mill.first(256);
        mill.second(300);
        mill.second(300);
        mill.second(300);
        mill.second(120);
        check.same("second PC", mill.look(1, Mills.PC), 1020);
    }
}
