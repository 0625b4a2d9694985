/** Promise 5, and the second machine's instructions one by one. */
public final class SecondTest {
    public static void main(String[] args) {
        Check check = new Check("SecondTest");
        wrongInputs(check);
        counts(check);
        ends(check);
        keeping(check);
        memory(check);
        calls(check);
        check.end();
    }

    private static void wrongInputs(Check check) {
        for (int n : new int[] {0, -1, 301, Integer.MIN_VALUE, Integer.MAX_VALUE}) {
            check.throwing("second(" + n + ")", IllegalArgumentException.class, () -> Mills.at0(1).second(n));
            check.throwing("second(" + n + "), nothing translated", IllegalArgumentException.class,
                () -> new TwinMill().second(n));
        }
        check.throwing("second(1), nothing translated", IllegalStateException.class, () -> new TwinMill().second(1));
    }

    private static void counts(Check check) {
        TwinMill loop = Mills.at0(22, 0);
        check.same("second(300) in a loop", loop.second(300), 300);
        check.same("instructions", loop.look(1, Mills.DONE), 300);
        check.same("the first one has not moved", loop.look(0, Mills.DONE), 0);
        TwinMill halt = Mills.at0(0, 1);
        check.same("second(1)", halt.second(1), 1);
        check.same("goes on", halt.look(1, Mills.STATE), 0);
        check.same("second(9)", halt.second(9), 1);
        check.same("has halted", halt.look(1, Mills.STATE), 1);
        check.same("second(9) again", halt.second(9), 0);
        check.same("stays there", halt.look(1, Mills.PC), 1);
        check.same("counted once", halt.look(1, Mills.DONE), 2);
        TwinMill lost = Mills.at0(7, 1, 31);
        check.same("a 26 that fails", lost.second(9), 2);
        check.same("has failed", lost.look(1, Mills.STATE), 2);
        check.same("stays", lost.second(9), 0);
        check.same("stays there", lost.look(1, Mills.PC), 1);
        check.same("counted once", lost.look(1, Mills.DONE), 2);
    }

    /** The most that a call may do, and an end that falls on the last of it. */
    private static void ends(Check check) {
        // X is counted down to 0, with five instructions a round; then a HALT.
        int[][] rows = {{58, 295, Mills.HALTED, 0}, {59, 300, Mills.HALTED, 0}, {60, 300, Mills.GOES_ON, 5}};
        for (int[] row : rows) {
            TwinMill mill = Mills.at0(0, 0, 0, 7, row[0], 11, 24, 5, 1);
            check.same("second(300) with X " + row[0], mill.second(300), row[1]);
            check.same("state with X " + row[0], mill.look(1, Mills.STATE), row[2]);
            check.same("second(300) again with X " + row[0], mill.second(300), row[3]);
            check.same("state at the end", mill.look(1, Mills.STATE), Mills.HALTED);
            check.same("counted", mill.look(1, Mills.DONE), row[1] + row[3]);
        }
        for (int n = 1; n <= 4; n++) {
            TwinMill halt = Mills.at0(0, 0, 1);
            check.same("second(" + n + ") to a halt", halt.second(n), Math.min(n, 3));
            check.same("state", halt.look(1, Mills.STATE), n < 3 ? Mills.GOES_ON : Mills.HALTED);
            check.same("second(1) behind " + n, halt.second(1), n < 3 ? 1 : 0);
            TwinMill loop = Mills.at0(0, 28);
            check.same("second(" + n + ") to a return that does not fail", loop.second(n), n);
            check.same("state", loop.look(1, Mills.STATE), Mills.GOES_ON);
            TwinMill failed = Mills.at0(10, 28);
            check.same("second(4)", failed.second(4), 4);
            check.same("second(" + n + ") to a return that fails", failed.second(n), Math.min(n, 2));
            check.same("state", failed.look(1, Mills.STATE), n < 2 ? Mills.GOES_ON : Mills.FAILED);
            check.same("second(1) behind " + n, failed.second(1), n < 2 ? 1 : 0);
        }
    }

    private static void shows(Check check, String when, TwinMill mill, int what, int due) {
        check.same("look(1, " + what + ") " + when, mill.look(1, what), due);
    }

    /** 15 1 turns C on; the row of 2 keeps it while its TEST turns it off. */
    private static void keeping(Check check) {
        TwinMill mill = Mills.at0(15, 1, 2, 7, 10, 11, 17, 3, 10, 1);
        mill.second(1);
        shows(check, "behind 2 R2 1", mill, Mills.R2, 1);
        mill.second(1);
        shows(check, "behind 11", mill, Mills.A, 255);
        shows(check, "behind 11", mill, Mills.C, 1);
        shows(check, "behind 11", mill, Mills.KEPT, 0);
        mill.second(1);
        shows(check, "behind KEEP", mill, Mills.KEPT, 1);
        shows(check, "behind KEEP", mill, Mills.C, 1);
        mill.second(1);
        shows(check, "behind 2 R0 7", mill, Mills.A, 7);
        mill.second(1);
        shows(check, "behind TEST", mill, Mills.C, 0);
        shows(check, "behind TEST", mill, Mills.Z, 0);
        mill.second(1);
        shows(check, "behind BACK", mill, Mills.C, 1);
        shows(check, "behind BACK", mill, Mills.KEPT, 1);
        mill.second(3);
        shows(check, "behind 9 R1 R2", mill, Mills.C, 0);
        shows(check, "behind 9 R1 R2", mill, Mills.X, 1);
        mill.second(1);
        shows(check, "behind the row of 10", mill, Mills.C, 1);
        mill.second(4);
        shows(check, "behind the row of 11", mill, Mills.X, 0);
        shows(check, "behind the row of 11", mill, Mills.Z, 1);
        mill.second(2);
        shows(check, "behind the row of 17", mill, Mills.A, 3);
        shows(check, "behind the row of 17", mill, Mills.C, 0);
        shows(check, "behind the row of 17", mill, Mills.KEPT, 1);
        mill.second(4);
        shows(check, "behind the second row of 10", mill, Mills.KEPT, 0);
        shows(check, "behind the second row of 10", mill, Mills.C, 0);
        shows(check, "at the end", mill, Mills.STATE, 0);
        check.same("the halt", mill.second(300), 1);
    }

    private static void memory(Check check) {
        TwinMill mill = new TwinMill();
        Mills.put(mill, 0, 2, 9, 7, 250, 5, 100, 6, 20, 4, 126, 3, 121, 8, 9, 20, 21, 1);
        Mills.put(mill, 120, 60, 70);
        mill.translate(0);
        mill.second(5);
        shows(check, "behind 2 R1 250", mill, Mills.X, 250);
        mill.second(1);
        check.same("byte at y", mill.byteAt(1, 100), 9);
        check.same("not at y + R1", mill.byteAt(1, 94), 0);
        check.same("the first memory is another one", mill.byteAt(0, 100), 0);
        mill.second(1);
        check.same("byte at y + R1 wraps", mill.byteAt(1, 14), 9);
        check.same("not at y", mill.byteAt(1, 20), 0);
        mill.second(4);
        shows(check, "byte at 126 + 250", mill, Mills.A, 60);
        check.same("a load writes nothing", mill.byteAt(1, 120), 60);
        check.same("a load writes nothing", mill.byteAt(1, 126), 0);
        mill.second(4);
        shows(check, "byte at 121", mill, Mills.A, 70);
        check.same("a load writes nothing", mill.byteAt(1, 121), 70);
        mill.second(1);
        shows(check, "behind 3 R1 R0", mill, Mills.X, 70);
        mill.second(5);
        shows(check, "doubled", mill, Mills.A, 140);
        mill.second(1);
        shows(check, "halved", mill, Mills.A, 70);
        check.same("PC", mill.look(1, Mills.PC), mill.mapped(16));
    }

    private static void calls(Check check) {
        TwinMill mill = Mills.at0(27, 5, 29, 1, 0, 28);
        mill.second(2);
        shows(check, "behind 24 R2", mill, Mills.SP, 254);
        check.same("pushed", mill.byteAt(1, 255), 2);
        mill.second(1);
        check.same("in the call", mill.look(1, Mills.PC), mill.mapped(5));
        mill.second(1);
        shows(check, "behind 25 R2", mill, Mills.R2, 2);
        shows(check, "behind 25 R2", mill, Mills.SP, 255);
        mill.second(1);
        check.same("back from the call", mill.look(1, Mills.PC), mill.mapped(2));
        // A return to an address that is no beginning of an instruction fails.
        TwinMill lost = Mills.at0(2, 1, 29, 28);
        check.same("second(9)", lost.second(9), 7);
        shows(check, "lost", lost, Mills.STATE, 2);
        shows(check, "lost", lost, Mills.PC, 6);
        // A pop wraps SP.
        TwinMill wrap = Mills.at0(30, 29, 1);
        wrap.second(4);
        shows(check, "popped", wrap, Mills.A, 30);
        shows(check, "popped", wrap, Mills.SP, 0);
        wrap.second(1);
        shows(check, "pushed", wrap, Mills.SP, 255);
    }
}
