/** Promise 4, and the first machine's instructions one by one. */
public final class FirstTest {
    private static final int[] BYTES = {0, 1, 2, 3, 127, 128, 129, 200, 254, 255};

    public static void main(String[] args) {
        Check check = new Check("FirstTest");
        wrongInputs(check);
        counts(check);
        ends(check);
        loads(check);
        index(check);
        sums(check);
        transfers(check);
        stack(check);
        ownBytes(check);
        check.end();
    }

    private static void wrongInputs(Check check) {
        for (int n : new int[] {0, -1, 301, Integer.MIN_VALUE, Integer.MAX_VALUE}) {
            check.throwing("first(" + n + ")", IllegalArgumentException.class, () -> Mills.at0(1).first(n));
            check.throwing("first(" + n + "), nothing translated", IllegalArgumentException.class,
                () -> new TwinMill().first(n));
        }
        check.throwing("first(1), nothing translated", IllegalStateException.class, () -> new TwinMill().first(1));
    }

    private static void counts(Check check) {
        TwinMill loop = Mills.at0(22, 0);
        check.same("first(300) in a loop", loop.first(300), 300);
        check.same("first(1) in a loop", loop.first(1), 1);
        check.same("instructions", loop.look(0, Mills.DONE), 301);
        check.same("the second one has not moved", loop.look(1, Mills.DONE), 0);
        TwinMill halt = Mills.at0(0, 0, 1);
        check.same("before the halt", halt.first(2), 2);
        check.same("goes on", halt.look(0, Mills.STATE), 0);
        check.same("stands at the halt", halt.look(0, Mills.PC), 2);
        check.same("comes to the halt", halt.first(5), 1);
        check.same("has halted", halt.look(0, Mills.STATE), 1);
        check.same("stays", halt.first(300), 0);
        check.same("stays there", halt.look(0, Mills.PC), 2);
        check.same("counted once", halt.look(0, Mills.DONE), 3);
        // X leads to an unknown byte that the translation never saw.
        TwinMill lost = Mills.at0(7, 50, 31);
        Mills.put(lost, 50, 32);
        lost.translate(0);
        check.same("comes to the unknown", lost.first(9), 3);
        check.same("has failed", lost.look(0, Mills.STATE), 2);
        check.same("stays", lost.first(9), 0);
        check.same("stays there", lost.look(0, Mills.PC), 50);
        check.same("counted once", lost.look(0, Mills.DONE), 3);
    }

    /** The most that a call may do, and an end that falls on the last of it. */
    private static void ends(Check check) {
        // X is counted down to 0, with two instructions a round; then a HALT.
        int[][] rows = {{148, 298, Mills.HALTED, 0}, {149, 300, Mills.HALTED, 0}, {150, 300, Mills.GOES_ON, 2}};
        for (int[] row : rows) {
            TwinMill mill = Mills.at0(7, row[0], 11, 24, 2, 1);
            check.same("first(300) with X " + row[0], mill.first(300), row[1]);
            check.same("state with X " + row[0], mill.look(0, Mills.STATE), row[2]);
            check.same("first(300) again with X " + row[0], mill.first(300), row[3]);
            check.same("state at the end", mill.look(0, Mills.STATE), Mills.HALTED);
            check.same("counted", mill.look(0, Mills.DONE), row[1] + row[3]);
        }
        for (int end : new int[] {1, 32, 255}) {
            for (int n = 1; n <= 4; n++) {
                TwinMill mill = Mills.from(0, Mills.at(0, 7, 90, 31), Mills.at(90, end));
                check.same("first(" + n + ") to " + end, mill.first(n), Math.min(n, 3));
                int state = n < 3 ? Mills.GOES_ON : end == 1 ? Mills.HALTED : Mills.FAILED;
                check.same("state behind " + n, mill.look(0, Mills.STATE), state);
                check.same("first(1) behind " + n + " to " + end, mill.first(1), n < 3 ? 1 : 0);
            }
            TwinMill atOnce = Mills.from(0, Mills.at(0, 7, 90, 31), Mills.at(90, end));
            atOnce.first(2);
            check.same("first(1) at " + end, atOnce.first(1), 1);
            check.same("first(1) at " + end + " once more", atOnce.first(1), 0);
        }
    }

    /** What a machine shows behind some instructions: A, X, SP, PC, Z, C. */
    private static void shows(Check check, TwinMill mill, int steps, int... due) {
        mill.first(steps);
        for (int what = 0; what < due.length; what++) {
            check.same("look(0, " + what + ") behind " + steps, mill.look(0, what), due[what]);
        }
    }

    private static void loads(Check check) {
        shows(check, Mills.at0(2, 9, 1), 1, 9, 0, 255, 2, 0, 0);
        shows(check, Mills.at0(2, 0, 1), 1, 0, 0, 255, 2, 1, 0);
        shows(check, Mills.at0(3, 4, 1, 0, 77), 1, 77, 0, 255, 2, 0, 0);
        shows(check, Mills.at0(3, 3, 1, 0), 1, 0, 0, 255, 2, 1, 0);
        shows(check, Mills.at0(7, 1, 3, 6, 1, 0, 77, 78), 2, 77, 1, 255, 4, 0, 0);
        shows(check, Mills.at0(7, 3, 4, 4, 1, 0, 0, 66), 2, 66, 3, 255, 4, 0, 0);
        shows(check, Mills.at0(7, 252, 4, 10, 1, 0, 55), 2, 55, 252, 255, 4, 0, 0);
        shows(check, Mills.at0(7, 3, 4, 2, 1, 0), 2, 0, 3, 255, 4, 1, 0);
        shows(check, Mills.at0(2, 8, 8, 1), 2, 8, 8, 255, 3, 0, 0);
        shows(check, Mills.at0(7, 8, 9, 1), 2, 8, 8, 255, 3, 0, 0);
        shows(check, Mills.at0(2, 8, 9, 1), 2, 0, 0, 255, 3, 1, 0);
        // X = n and X = A leave Z alone.
        shows(check, Mills.at0(2, 0, 7, 5, 1), 2, 0, 5, 255, 4, 1, 0);
        shows(check, Mills.at0(2, 5, 7, 0, 1), 2, 5, 0, 255, 4, 0, 0);
        shows(check, Mills.at0(8, 1), 1, 0, 0, 255, 1, 0, 0);
        // C stays through all of them.
        shows(check, Mills.at0(15, 1, 2, 4, 3, 0, 4, 0, 7, 1, 8, 9, 10, 11, 1), 9, 15, 15, 255, 14, 0, 1);
        TwinMill store = Mills.at0(2, 9, 7, 250, 5, 100, 6, 20, 1);
        store.first(4);
        check.same("byte at n", store.byteAt(0, 100), 9);
        check.same("byte at n + X", store.byteAt(0, 14), 9);
        check.same("no byte at n + X by 5", store.byteAt(0, 94), 0);
        check.same("no byte at n by 6", store.byteAt(0, 20), 0);
        check.same("X stays", store.look(0, Mills.X), 250);
        check.same("Z stays", store.look(0, Mills.Z), 0);
        check.same("the second memory is another one", store.byteAt(1, 100), 0);
    }

    private static void index(Check check) {
        for (int x : BYTES) {
            shows(check, Mills.at0(7, x, 10, 1), 2, 0, x + 1 & 255, 255, 3, x == 255 ? 1 : 0, 0);
            shows(check, Mills.at0(7, x, 11, 1), 2, 0, x - 1 & 255, 255, 3, x == 1 ? 1 : 0, 0);
            shows(check, Mills.at0(15, 1, 7, x, 10, 1), 3, 255, x + 1 & 255, 255, 5, x == 255 ? 1 : 0, 1);
            shows(check, Mills.at0(15, 1, 7, x, 11, 1), 3, 255, x - 1 & 255, 255, 5, x == 1 ? 1 : 0, 1);
        }
    }

    private static void sums(Check check) {
        for (int a : BYTES) {
            for (int n : BYTES) {
                for (int carry = 0; carry < 2; carry++) {
                    sum(check, 12, a, n, carry, a + n, a + n > 255);
                    sum(check, 13, a, n, carry, a + n, a + n > 255);
                    sum(check, 14, a, n, carry, a + n + carry, a + n + carry > 255);
                    sum(check, 15, a, n, carry, a - n, n > a);
                    sum(check, 16, a, n, carry, a - n, n > a);
                    sum(check, 17, a, n, carry, a & n, false);
                    sum(check, 18, a, n, carry, a ^ n, false);
                    sum(check, 19, a, n, carry, a - n, n > a);
                }
            }
            sum(check, 20, a, 0, 0, 2 * a, a >= 128);
            sum(check, 20, a, 0, 1, 2 * a, a >= 128);
            sum(check, 21, a, 0, 0, a / 2, a % 2 == 1);
            sum(check, 21, a, 0, 1, a / 2, a % 2 == 1);
        }
    }

    /** C is made by a difference, then A, which leaves C alone; both machines are looked at. */
    private static void sum(Check check, int op, int a, int n, int carry, int result, boolean c) {
        TwinMill mill = new TwinMill();
        boolean fromMemory = op == 13 || op == 14 || op == 16;
        Mills.put(mill, 0, 15, carry, 2, a, op, fromMemory ? 90 : n);
        Mills.put(mill, op >= 20 ? 5 : 6, 1);
        mill.image(90, n);
        mill.translate(0);
        Mills.stepped(mill, 3);
        for (int machine = 0; machine < 2; machine++) {
            String what = op + " with " + a + ", " + n + ", " + carry + " on " + machine;
            check.same(what + ": A", mill.look(machine, Mills.A), op == 19 ? a : result & 255);
            check.same(what + ": Z", mill.look(machine, Mills.Z), (result & 255) == 0 ? 1 : 0);
            check.same(what + ": C", mill.look(machine, Mills.C), c ? 1 : 0);
        }
        check.same(op + ": PC", mill.look(0, Mills.PC), op >= 20 ? 5 : 6);
        check.same(op + ": alike", mill.alike(), true);
    }

    private static void transfers(Check check) {
        // 19 with A = 5: Z and C for 5; neither for 4; C for 6.
        int[] compared = {4, 5, 6};
        for (int n : compared) {
            boolean z = n == 5;
            boolean c = n == 6;
            boolean[] goes = {true, z, !z, c, !c};
            for (int op = 22; op <= 26; op++) {
                TwinMill mill = Mills.at0(2, 5, 19, n, op, 9, 1, 0, 0, 1);
                mill.first(3);
                check.same(op + " behind 19 " + n, mill.look(0, Mills.PC), goes[op - 22] ? 9 : 6);
                mill.second(7);
                int due = mill.mapped(goes[op - 22] ? 9 : 6);
                check.same(op + " behind 19 " + n + ", second", mill.look(1, Mills.PC), due);
            }
        }
        shows(check, Mills.at0(7, 200, 31), 2, 0, 200, 255, 200, 0, 0);
        TwinMill loaded = Mills.at0(7, 1, 4, 9, 1, 0, 0, 0, 0, 8, 7);
        shows(check, loaded, 2, 7, 1, 255, 4, 0, 0);
        check.same("a load writes nothing", loaded.byteAt(0, 9), 8);
    }

    private static void stack(Check check) {
        TwinMill mill = Mills.at0(2, 7, 29, 27, 9, 30, 29, 1, 0, 28);
        shows(check, mill, 2, 7, 0, 254, 3, 0, 0);
        check.same("pushed", mill.byteAt(0, 255), 7);
        shows(check, mill, 1, 7, 0, 253, 9, 0, 0);
        check.same("the address behind", mill.byteAt(0, 254), 5);
        shows(check, mill, 1, 7, 0, 254, 5, 0, 0);
        shows(check, mill, 1, 7, 0, 255, 6, 0, 0);
        // SP wraps: the pop is from 0, and a push at 0 comes down to 255.
        TwinMill wrap = Mills.at0(30, 29, 29, 1);
        shows(check, wrap, 1, 30, 0, 0, 1, 0, 0);
        shows(check, wrap, 1, 30, 0, 255, 2, 0, 0);
        check.same("byte 0", wrap.byteAt(0, 0), 30);
        // A pop leaves C alone and makes Z.
        shows(check, Mills.at0(15, 1, 30, 1), 2, 15, 0, 0, 3, 0, 1);
        shows(check, Mills.at0(2, 0, 29, 2, 3, 30, 1), 4, 0, 0, 255, 6, 1, 0);
    }

    /** The first machine runs its memory as it is, and addresses wrap. */
    private static void ownBytes(Check check) {
        TwinMill mill = Mills.at0(2, 1, 5, 4, 0, 0, 1);
        check.same("a halt that was written", mill.first(9), 3);
        check.same("it stays there", mill.look(0, Mills.PC), 4);
        check.same("the second one runs its code", mill.second(9), 8);
        TwinMill call = new TwinMill();
        Mills.put(call, 254, 27, 9);
        Mills.put(call, 0, 1);
        Mills.put(call, 9, 1);
        call.translate(254);
        call.first(1);
        check.same("a call whose second byte is pushed over", call.look(0, Mills.PC), 9);
        check.same("the address behind wraps", call.byteAt(0, 255), 0);
        TwinMill wrap = Mills.at0(2, 2, 5, 255, 7, 255, 31);
        wrap.image(255, 1);
        check.same("first(5)", wrap.first(5), 5);
        check.same("A = n with n at 0", wrap.look(0, Mills.A), 2);
        check.same("PC behind 255 and 0", wrap.look(0, Mills.PC), 1);
        TwinMill one = Mills.at0(7, 255, 31, 1);
        one.first(3);
        check.same("PC behind 255", one.look(0, Mills.PC), 0);
    }
}
