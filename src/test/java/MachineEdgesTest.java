/**
 * Terms, what both machines have: bytes, registers, SP and flags at their ends. Every case is looked at
 * on the first machine alone and, "the same for its memory, registers and SP", on the second one alone.
 */
public final class MachineEdgesTest {
    private final Check check;
    private final int machine;

    private MachineEdgesTest(Check check, int machine) {
        this.check = check;
        this.machine = machine;
    }

    public static void main(String[] args) {
        Check check = new Check("MachineEdgesTest");
        for (int machine = 0; machine < 2; machine++) {
            MachineEdgesTest test = new MachineEdgesTest(check, machine);
            test.sums();
            test.differences();
            test.bits();
            test.shifts();
            test.loads();
            test.indexEnds();
            test.flagsLeftAlone();
            test.bytesAtTheEnds();
            test.indexedLoads();
            test.indexedStores();
            test.pushAndPop();
            test.callAndReturn();
            test.pushedRound();
            test.poppedRound();
            test.transfersToTheEnds();
        }
        check.end();
    }

    private void shows(String what, TwinMill mill, int part, int due) {
        check.same("machine " + machine + ", " + what + ": look " + part, mill.look(machine, part), due);
    }

    private void holds(String what, TwinMill mill, int a, int due) {
        check.same("machine " + machine + ", " + what + ": byte at " + a, mill.byteAt(machine, a), due);
    }

    /** A row: A and n before, C before, then A, Z and C behind. n is the byte at 90 for 13, 14 and 16. */
    private void reckons(int op, int[]... rows) {
        for (int[] row : rows) {
            boolean fromMemory = op == 13 || op == 14 || op == 16;
            boolean two = op < 20;
            int[] instruction = two ? Mills.at(14, op, fromMemory ? 90 : row[1], 1) : Mills.at(14, op, 1);
            TwinMill mill = Mills.from(10, Mills.at(10, 15, row[2], 2, row[0]), instruction, Mills.at(90, row[1]));
            Mills.step(mill, machine, 3);
            String what = op + " with A " + row[0] + ", n " + row[1] + ", C " + row[2];
            shows(what, mill, Mills.A, row[3]);
            shows(what, mill, Mills.Z, row[4]);
            shows(what, mill, Mills.C, row[5]);
            shows(what, mill, Mills.PC, Mills.place(mill, machine, two ? 16 : 15));
        }
    }

    /** "bytes modulo 256", "C the carry". */
    private void sums() {
        int[][] rows = {{0, 0, 0, 0, 1, 0}, {254, 1, 0, 255, 0, 0}, {255, 0, 0, 255, 0, 0}, {127, 128, 0, 255, 0, 0},
            {255, 1, 0, 0, 1, 1}, {1, 255, 0, 0, 1, 1}, {128, 128, 0, 0, 1, 1}, {255, 2, 0, 1, 0, 1},
            {255, 255, 0, 254, 0, 1}};
        int[][] withoutCarry = {{0, 0, 1, 0, 1, 0}, {254, 1, 1, 255, 0, 0}, {255, 0, 1, 255, 0, 0},
            {255, 1, 1, 0, 1, 1}, {255, 255, 1, 254, 0, 1}};
        int[][] withCarry = {{0, 0, 1, 1, 0, 0}, {254, 0, 1, 255, 0, 0}, {254, 1, 1, 0, 1, 1}, {255, 0, 1, 0, 1, 1},
            {0, 255, 1, 0, 1, 1}, {255, 255, 1, 255, 0, 1}};
        reckons(12, rows);
        reckons(12, withoutCarry);
        reckons(13, rows);
        reckons(13, withoutCarry);
        reckons(14, rows);
        reckons(14, withCarry);
    }

    /** "C whether n was greater than A"; 19 "as 15, but A stays (Z of the difference)". */
    private void differences() {
        int[][] rows = {{0, 0, 0, 0, 1, 0}, {5, 5, 0, 0, 1, 0}, {255, 255, 0, 0, 1, 0}, {5, 4, 0, 1, 0, 0},
            {255, 0, 0, 255, 0, 0}, {128, 127, 0, 1, 0, 0}, {5, 6, 0, 255, 0, 1}, {0, 1, 0, 255, 0, 1},
            {0, 255, 0, 1, 0, 1}, {127, 128, 0, 255, 0, 1}, {5, 5, 1, 0, 1, 0}, {5, 4, 1, 1, 0, 0},
            {0, 0, 1, 0, 1, 0}, {0, 1, 1, 255, 0, 1}};
        reckons(15, rows);
        reckons(16, rows);
        int[][] stays = new int[rows.length][];
        for (int i = 0; i < rows.length; i++) {
            stays[i] = rows[i].clone();
            stays[i][3] = rows[i][0];
        }
        reckons(19, stays);
    }

    /** "A = A and n, Z(A), C 0", "A = A xor n, Z(A), C 0". */
    private void bits() {
        reckons(17, new int[][] {{255, 0, 1, 0, 1, 0}, {0, 255, 1, 0, 1, 0}, {240, 15, 0, 0, 1, 0},
            {255, 128, 1, 128, 0, 0}, {255, 255, 1, 255, 0, 0}, {129, 1, 0, 1, 0, 0}});
        reckons(18, new int[][] {{255, 255, 1, 0, 1, 0}, {0, 0, 1, 0, 1, 0}, {255, 0, 1, 255, 0, 0},
            {170, 85, 1, 255, 0, 0}, {0, 128, 0, 128, 0, 0}});
    }

    /** "C its old bit 7", "C its old bit 0": the C before does not come in. */
    private void shifts() {
        reckons(20, new int[][] {{0, 0, 0, 0, 1, 0}, {0, 0, 1, 0, 1, 0}, {64, 0, 1, 128, 0, 0}, {127, 0, 1, 254, 0, 0},
            {128, 0, 0, 0, 1, 1}, {129, 0, 0, 2, 0, 1}, {255, 0, 0, 254, 0, 1}, {255, 0, 1, 254, 0, 1}});
        reckons(21, new int[][] {{0, 0, 0, 0, 1, 0}, {0, 0, 1, 0, 1, 0}, {1, 0, 0, 0, 1, 1}, {2, 0, 1, 1, 0, 0},
            {128, 0, 1, 64, 0, 0}, {254, 0, 1, 127, 0, 0}, {255, 0, 0, 127, 0, 1}, {255, 0, 1, 127, 0, 1}});
    }

    /** Z(A) of what is loaded, at the ends; C stays as it was. */
    private void loads() {
        for (int v : new int[] {0, 1, 128, 255}) {
            for (int c = 0; c < 2; c++) {
                loaded("2", v, c, 1, Mills.at(14, 2, v, 1));
                loaded("3", v, c, 1, Mills.at(14, 3, 90, 1));
                loaded("4", v, c, 2, Mills.at(14, 7, 90, 4, 0, 1));
                loaded("9", v, c, 2, Mills.at(14, 7, v, 9, 1));
                loaded("30", v, c, 4, Mills.at(14, 2, v, 29, 2, 9, 30, 1));
            }
        }
    }

    private void loaded(String op, int v, int c, int steps, int[] load) {
        // Z is on before for v = 1, and off for the others.
        TwinMill mill = Mills.from(10, Mills.at(10, 15, c, 2, v == 1 ? 0 : 7), load, Mills.at(90, v));
        Mills.step(mill, machine, 2 + steps);
        String what = op + " of " + v + ", C " + c;
        shows(what, mill, Mills.A, v);
        shows(what, mill, Mills.Z, v == 0 ? 1 : 0);
        shows(what, mill, Mills.C, c);
    }

    /** "X grows by 1, Z(X)", "X falls by 1, Z(X)", modulo 256; C stays. */
    private void indexEnds() {
        int[][] rows = {{10, 255, 0, 1}, {10, 254, 255, 0}, {10, 0, 1, 0}, {10, 127, 128, 0}, {11, 0, 255, 0},
            {11, 1, 0, 1}, {11, 255, 254, 0}, {11, 128, 127, 0}};
        for (int[] row : rows) {
            for (int c = 0; c < 2; c++) {
                TwinMill mill = Mills.at0(15, c, 7, row[1], row[0], 1);
                Mills.step(mill, machine, 3);
                String what = row[0] + " with X " + row[1] + ", C " + c;
                shows(what, mill, Mills.X, row[2]);
                shows(what, mill, Mills.Z, row[3]);
                shows(what, mill, Mills.C, c);
                shows(what, mill, Mills.A, c == 1 ? 255 : 0);
            }
        }
    }

    /** No flag is named with 0, 5 to 8, 22 to 29 and 31: both stay, whatever A and X are. */
    private void flagsLeftAlone() {
        int[][] rows = {{0}, {5, 90}, {6, 90}, {7, 0}, {7, 9}, {8}, {22, 40}, {23, 40}, {24, 40}, {25, 40}, {26, 40},
            {27, 40}, {28}, {29}, {31}};
        for (int[] row : rows) {
            // 19 with A = 5: 4 turns both flags off, 5 turns Z on, 6 turns C on.
            for (int n = 4; n <= 6; n++) {
                TwinMill mill = Mills.from(0, Mills.at(0, 2, 5, 19, n), Mills.at(4, row),
                    Mills.at(4 + row.length, 1), Mills.at(40, 1));
                Mills.step(mill, machine, 3);
                shows(row[0] + " behind 19 " + n, mill, Mills.Z, n == 5 ? 1 : 0);
                shows(row[0] + " behind 19 " + n, mill, Mills.C, n == 6 ? 1 : 0);
            }
        }
    }

    /** The byte at n for n = 0 and n = 255. */
    private void bytesAtTheEnds() {
        for (int n : new int[] {0, 255}) {
            int v = n == 0 ? 60 : 70;
            for (int[] row : new int[][] {{3, v}, {13, v + 9}, {14, v + 9}, {16, 256 + 9 - v}}) {
                TwinMill mill = Mills.from(10, Mills.at(0, 60), Mills.at(255, 70), Mills.at(10, 2, 9, row[0], n, 1));
                Mills.step(mill, machine, 2);
                shows(row[0] + " of the byte at " + n, mill, Mills.A, row[1]);
            }
            TwinMill mill = Mills.from(10, Mills.at(10, 2, 9, 5, n, 1));
            Mills.step(mill, machine, 2);
            holds("5 at " + n, mill, n, 9);
            holds("5 at " + n, mill, 255 - n, 0);
        }
    }

    private static final int[][] INDEXED = {{0, 0, 0}, {0, 255, 255}, {255, 0, 255}, {200, 55, 255}, {200, 56, 0},
        {1, 255, 0}, {255, 1, 0}, {255, 2, 1}, {255, 255, 254}, {128, 128, 0}};

    /** "byte at n + X", modulo 256. */
    private void indexedLoads() {
        for (int[] row : INDEXED) {
            TwinMill mill = Mills.from(10, Mills.at(0, 60, 61), Mills.at(254, 62, 63),
                Mills.at(10, 7, row[1], 4, row[0], 1));
            Mills.step(mill, machine, 2);
            int due = row[2] < 2 ? 60 + row[2] : row[2] - 192;
            shows("4 " + row[0] + " with X " + row[1], mill, Mills.A, due);
            shows("4 " + row[0] + " with X " + row[1], mill, Mills.X, row[1]);
        }
    }

    /** "byte at n + X = A", modulo 256. */
    private void indexedStores() {
        for (int[] row : INDEXED) {
            TwinMill mill = Mills.from(10, Mills.at(10, 2, 255, 7, row[1], 6, row[0], 1));
            Mills.step(mill, machine, 3);
            for (int a : new int[] {0, 1, 2, 128, 200, 253, 254, 255}) {
                holds("6 " + row[0] + " with X " + row[1], mill, a, a == row[2] ? 255 : 0);
            }
        }
    }

    /** "the byte at SP becomes it, SP falls by 1"; "SP grows by 1, the byte at SP", at SP's ends. */
    private void pushAndPop() {
        TwinMill down = Mills.from(10, Mills.at(10, 2, 9, 29, 2, 8, 29, 30, 30, 1));
        Mills.step(down, machine, 2);
        shows("a push at 255", down, Mills.SP, 254);
        holds("a push at 255", down, 255, 9);
        holds("a push at 255", down, 254, 0);
        Mills.step(down, machine, 2);
        shows("a push at 254", down, Mills.SP, 253);
        holds("a push at 254", down, 254, 8);
        Mills.step(down, machine, 1);
        shows("a pop at 253", down, Mills.SP, 254);
        shows("a pop at 253", down, Mills.A, 8);
        Mills.step(down, machine, 1);
        shows("a pop at 254", down, Mills.SP, 255);
        shows("a pop at 254", down, Mills.A, 9);
        TwinMill round = Mills.from(10, Mills.at(0, 77, 78), Mills.at(10, 30, 30, 29, 2, 5, 29, 2, 6, 29, 1));
        Mills.step(round, machine, 1);
        shows("a pop at 255", round, Mills.SP, 0);
        shows("a pop at 255", round, Mills.A, 77);
        Mills.step(round, machine, 1);
        shows("a pop at 0", round, Mills.SP, 1);
        shows("a pop at 0", round, Mills.A, 78);
        Mills.step(round, machine, 3);
        shows("a push at 0", round, Mills.SP, 255);
        holds("a push at 0", round, 0, 5);
        holds("a push at 1", round, 1, 78);
        Mills.step(round, machine, 2);
        shows("a push behind it", round, Mills.SP, 254);
        holds("a push behind it", round, 255, 6);
    }

    /** "the address behind is pushed" at SP 0 and 255; "to what is popped" at SP 255. */
    private void callAndReturn() {
        TwinMill call = Mills.from(10, Mills.at(10, 30, 27, 40, 1), Mills.at(40, 28));
        Mills.step(call, machine, 2);
        shows("a call at SP 0", call, Mills.SP, 255);
        holds("a call at SP 0", call, 0, 13);
        holds("a call at SP 0", call, 255, 0);
        shows("a call at SP 0", call, Mills.PC, Mills.place(call, machine, 40));
        Mills.step(call, machine, 1);
        shows("a return at SP 255", call, Mills.SP, 0);
        shows("a return at SP 255", call, Mills.PC, Mills.place(call, machine, 13));
        TwinMill last = Mills.from(254, Mills.at(254, 27, 40), Mills.at(40, 28), Mills.at(0, 1));
        Mills.step(last, machine, 1);
        shows("a call at 254", last, Mills.PC, Mills.place(last, machine, 40));
        holds("a call at 254, the address behind is 0", last, 255, 0);
        Mills.step(last, machine, 1);
        shows("the return to 0", last, Mills.PC, Mills.place(last, machine, 0));
        TwinMill middle = Mills.from(253, Mills.at(253, 27, 40, 1), Mills.at(40, 28));
        Mills.step(middle, machine, 1);
        holds("a call at 253", middle, 255, 255);
        Mills.step(middle, machine, 1);
        shows("the return to 255", middle, Mills.PC, Mills.place(middle, machine, 255));
    }

    /** 256 pushes of 29 come back to SP 255 and fill the memory; the first machine runs the 29s it has pushed. */
    private void pushedRound() {
        TwinMill mill = Mills.at0(2, 29, 29, 22, 2);
        if (machine == 0) {
            mill.first(300);
            mill.first(209);
            shows("256 pushes", mill, Mills.PC, 33);
        } else {
            mill.second(300);
            mill.second(215);
            shows("256 pushes", mill, Mills.PC, mill.mapped(3));
        }
        shows("256 pushes", mill, Mills.SP, 255);
        for (int a = 0; a < 256; a++) {
            holds("256 pushes", mill, a, 29);
        }
    }

    private void poppedRound() {
        TwinMill mill = Mills.from(10, Mills.at(10, 30, 22, 10), Mills.at(255, 44));
        if (machine == 0) {
            mill.first(300);
            mill.first(211);
        } else {
            for (int i = 0; i < 4; i++) {
                mill.second(300);
            }
            mill.second(79);
        }
        shows("256 pops", mill, Mills.SP, 255);
        shows("256 pops", mill, Mills.A, 44);
        shows("256 pops", mill, Mills.PC, Mills.place(mill, machine, 11));
    }

    private void transfersToTheEnds() {
        for (int to : new int[] {0, 255}) {
            TwinMill jump = Mills.from(10, Mills.at(10, 22, to), Mills.at(to, 1));
            Mills.step(jump, machine, 1);
            shows("22 to " + to, jump, Mills.PC, Mills.place(jump, machine, to));
            TwinMill byX = Mills.from(10, Mills.at(10, 2, 1, 23, to, 7, to, 31), Mills.at(to, 1));
            Mills.step(byX, machine, 4);
            shows("31 to " + to, byX, Mills.PC, Mills.place(byX, machine, to));
            // The first push leaves a HALT at 255.
            TwinMill back = Mills.from(10, Mills.at(10, 2, 1, 29, 23, to, 2, to, 29, 28), Mills.at(to, 1));
            Mills.step(back, machine, 6);
            shows("28 to " + to, back, Mills.PC, Mills.place(back, machine, to));
            Mills.step(back, machine, 1);
            shows("the halt at " + to, back, Mills.STATE, Mills.HALTED);
        }
    }
}
