/** Terms, REACHED and REFUSED: the end of memory, each reason, their order and the least address. */
public final class RefusedEdgesTest {
    private static final int[] HALT_AT_0_AND_1 = Mills.at(0, 1, 1);

    public static void main(String[] args) {
        Check check = new Check("RefusedEdgesTest");
        behind254(check);
        behind255(check);
        targetsAt255(check);
        everyByteAt254(check);
        everyByteAt255(check);
        unreachedEnd(check);
        twoBytesBeforeTheEnd(check);
        everyUnknown(check);
        unknownLeadsNowhere(check);
        leastUnknown(check);
        leastSecondByte(check);
        secondBytesAtTheEnd(check);
        unreachedInstruction(check);
        order(check);
        entries(check);
        check.end();
    }

    private static void answers(Check check, String what, int due, int entry, int[]... blocks) {
        check.same(what, Mills.with(blocks).translate(entry), due);
    }

    private static boolean reaches(int entry, int address, int[]... blocks) {
        return Mills.from(entry, blocks).mapped(address) != TwinMill.NONE;
    }

    /** "the address behind its instruction", at 254. */
    private static void behind254(Check check) {
        int[] halt = Mills.at(60, 28);
        check.same("255 behind one byte", reaches(254, 255, Mills.at(254, 0, 1)), true);
        answers(check, "an unknown at 255 behind one byte", -1255, 254, Mills.at(254, 0, 99));
        check.same("0 behind a call", reaches(254, 0, Mills.at(254, 27, 60), halt, Mills.at(0, 1)), true);
        answers(check, "an unknown at 0 behind a call", -1000, 254, Mills.at(254, 27, 60), halt, Mills.at(0, 99));
        check.same("0 is not behind 22", reaches(254, 0, Mills.at(254, 22, 60), halt, Mills.at(0, 1)), false);
        answers(check, "an unknown at 0 and 22", 3, 254, Mills.at(254, 22, 60), halt, Mills.at(0, 99));
        answers(check, "an unknown at 0 behind 2", -1000, 254, Mills.at(254, 2, 60), Mills.at(0, 99));
        answers(check, "an unknown at 0 behind 23", -1000, 254, Mills.at(254, 23, 60), halt, Mills.at(0, 99));
        answers(check, "an unknown where 23 leads", -1060, 254, Mills.at(254, 23, 60), Mills.at(60, 99),
            Mills.at(0, 1));
    }

    /** "the address behind its instruction", at 255. */
    private static void behind255(Check check) {
        answers(check, "an unknown at 0 behind one byte", -1000, 255, Mills.at(255, 0), Mills.at(0, 99));
        answers(check, "an unknown at 1 behind two bytes", -1001, 255, Mills.at(255, 2), Mills.at(0, 1, 99));
        answers(check, "an unknown second byte at 0", -3255, 255, Mills.at(255, 2), Mills.at(0, 99, 1));
        answers(check, "an unknown at 0 and 1", 1, 255, Mills.at(255, 1), Mills.at(0, 99));
        answers(check, "an unknown at 0 and 28", 2, 255, Mills.at(255, 28), Mills.at(0, 99));
        answers(check, "an unknown at 0 and 31", 1, 255, Mills.at(255, 31), Mills.at(0, 99));
    }

    /** The second byte of 22 to 27 at 255 is the one at 0. */
    private static void targetsAt255(Check check) {
        for (int op = 22; op <= 27; op++) {
            answers(check, "an unknown where " + op + " at 255 leads", -1060, 255, Mills.at(255, op),
                Mills.at(0, 60, 1), Mills.at(60, 99));
            answers(check, "an unknown behind " + op + " at 255", op == 22 ? -3255 : -1001, 255, Mills.at(255, op),
                Mills.at(0, 60, 99), Mills.at(60, 1));
        }
    }

    /** "254 is reached and holds an instruction of two bytes other than 22 and 27". */
    private static void everyByteAt254(Check check) {
        int[] rows = {1, 1, 4, 4, 4, 1, 1, 1, 1, 4, 4, 4, 2, 2, 2, 2, 2, 2, 2, 2, 1, 1, 1, 1, 1, 1, 1, 3, 2, 1, 4, 1};
        for (int op = 0; op < 32; op++) {
            boolean two = Mills.isTwo(op);
            boolean fine = !two || op == 22 || op == 27;
            boolean ends = op == 1 || op == 28 || op == 31;
            // Behind one byte stands a HALT at 255; behind a call, and where 22 leads, one at 0.
            int due = fine ? rows[op] + (ends ? 0 : 1) : -3254;
            answers(check, "254 holds " + op, due, 254, Mills.at(254, op, two ? 0 : 1), HALT_AT_0_AND_1);
            answers(check, "254 holds " + op + ", entry 60", fine ? due + 1 : due, 60, Mills.at(60, 22, 254),
                Mills.at(254, op, two ? 0 : 1), HALT_AT_0_AND_1);
        }
    }

    /** "255 is and holds another one than 1, 28 and 31". */
    private static void everyByteAt255(Check check) {
        for (int op = 0; op < 256; op++) {
            boolean fine = op == 1 || op == 28 || op == 31;
            int due = fine ? (op == 28 ? 2 : 1) : op < 32 ? -3255 : -1255;
            answers(check, "255 holds " + op, due, 255, Mills.at(255, op), HALT_AT_0_AND_1);
            answers(check, "255 holds " + op + ", entry 60", fine ? due + 1 : due, 60, Mills.at(60, 22, 255),
                Mills.at(255, op), HALT_AT_0_AND_1);
            answers(check, "255 holds " + op + ", behind 254", fine ? due + 1 : due, 254, Mills.at(254, 0, op),
                HALT_AT_0_AND_1);
        }
    }

    private static void unreachedEnd(Check check) {
        answers(check, "254 and 255 are not reached", 1, 0, Mills.at(0, 1), Mills.at(254, 2, 0));
        answers(check, "254 is not reached, 255 is", 2, 0, Mills.at(0, 22, 255), Mills.at(254, 2, 1));
        answers(check, "254 is reached, 255 is not", 2, 0, Mills.at(0, 22, 254), Mills.at(254, 1, 0));
    }

    /** Two bytes at 252 and 253 are as anywhere else. */
    private static void twoBytesBeforeTheEnd(Check check) {
        for (int op = 0; op < 32; op++) {
            boolean two = Mills.isTwo(op);
            if (two) {
                TwinMill at253 = Mills.with(Mills.at(253, op, 0, 1), Mills.at(0, 1));
                check.same(op + " at 253", at253.translate(253) > 0, true);
                check.same("255 behind " + op + " at 253", at253.mapped(255) != TwinMill.NONE, op != 22);
                TwinMill at252 = Mills.with(Mills.at(252, op, 0, 1, 0), Mills.at(0, 1));
                check.same(op + " at 252", at252.translate(252) > 0, true);
            }
        }
    }

    /** "1 if an UNKNOWN is reached". */
    private static void everyUnknown(Check check) {
        for (int op = 32; op < 256; op++) {
            answers(check, "0 holds " + op, -1000, 0, Mills.at(0, op, 1));
            answers(check, "61 holds " + op, -1061, 60, Mills.at(60, 0, op, 1));
        }
        answers(check, "an unknown that is not reached", 1, 60, Mills.at(59, 99, 1, 99));
        answers(check, "an unknown second byte", 5, 60, Mills.at(60, 2, 99, 1));
    }

    /** "of each reached address that does not hold an UNKNOWN". */
    private static void unknownLeadsNowhere(Check check) {
        answers(check, "0 is not behind an unknown at 255", -1255, 255, Mills.at(255, 99), Mills.at(0, 99));
        answers(check, "0 is not behind an unknown at 254", -1254, 254, Mills.at(254, 99, 9), Mills.at(0, 99));
        answers(check, "an unknown has no target", -1060, 60, Mills.at(60, 54, 5), Mills.at(5, 99));
        // Were it followed, with one byte or with two, or to a target, it would come to the unknown at 5 or 22.
        for (int op = 32; op < 256; op++) {
            answers(check, op + " leads nowhere", -1060, 60, Mills.at(60, op, 22, 5, 0, 22, 5), Mills.at(5, 99),
                Mills.at(22, 99));
        }
    }

    /** "in each case with the least such address", in whatever order they are found. */
    private static void leastUnknown(Check check) {
        answers(check, "behind is the least", -1102, 100, Mills.at(100, 23, 200, 99), Mills.at(200, 99));
        answers(check, "the target is the least", -1020, 100, Mills.at(100, 23, 20, 99), Mills.at(20, 99));
        answers(check, "0 is the least", -1000, 100, Mills.at(100, 23, 0, 99), Mills.at(0, 99));
        answers(check, "255 is not", -1102, 100, Mills.at(100, 23, 255, 99), Mills.at(255, 99));
        answers(check, "found last", -1003, 100, Mills.at(100, 23, 200, 23, 201, 22, 3), Mills.at(200, 99, 99),
            Mills.at(3, 99));
    }

    /** "2 if a reached address is the second byte of an instruction at a reached address". */
    private static void leastSecondByte(Check check) {
        // 10 and 102 hold two bytes each, of which 11 and 103 hold a "nothing" that is reached too.
        int[] low = Mills.at(10, 7, 0, 1);
        answers(check, "103 and 11, from 100", -2011, 100, Mills.at(100, 23, 103, 2, 0, 23, 11, 22, 10), low);
        answers(check, "103 alone", -2103, 100, Mills.at(100, 23, 103, 2, 0, 22, 10), low);
        answers(check, "11 alone", -2011, 100, Mills.at(100, 23, 11, 22, 10), low);
        answers(check, "neither", 7, 100, Mills.at(100, 23, 10, 2, 0, 1), Mills.at(10, 1));
        answers(check, "its own second byte", -2001, 0, Mills.at(0, 22, 1));
        answers(check, "behind comes back into a second byte", -2061, 61, Mills.at(60, 22, 0, 22, 60));
        for (int op = 0; op < 32; op++) {
            boolean two = Mills.isTwo(op);
            // 61 holds a RETURN, which is n as well: 28 holds a HALT for the transfers.
            int got = Mills.with(Mills.at(50, 23, 61, 22, 60), Mills.at(60, op, 28, 1), Mills.at(28, 1)).translate(50);
            check.same("61 reached, 60 holds " + op, got < 0 ? got : 0, two ? -2061 : 0);
        }
    }

    private static void secondBytesAtTheEnd(Check check) {
        answers(check, "255 is the second byte of 254", -2255, 60, Mills.at(60, 23, 254, 22, 255), Mills.at(254, 2, 1),
            Mills.at(0, 1));
        answers(check, "255 is the second byte of 22 at 254", -2255, 60, Mills.at(60, 23, 254, 22, 255),
            Mills.at(254, 22, 1), Mills.at(1, 1));
        answers(check, "0 is the second byte of 255", -2000, 60, Mills.at(60, 23, 255, 22, 0), Mills.at(255, 2),
            Mills.at(0, 1, 1));
        answers(check, "0 is the least of two", -2000, 60, Mills.at(60, 23, 255, 23, 0, 23, 71, 22, 70),
            Mills.at(255, 2), Mills.at(0, 1, 1), Mills.at(70, 7, 1, 1));
        answers(check, "255 holds one byte, 0 is reached", -3255, 255, Mills.at(255, 10), Mills.at(0, 1));
    }

    private static void unreachedInstruction(Check check) {
        answers(check, "the second byte of what is not reached", 2, 0, Mills.at(0, 22, 3, 7, 1));
        answers(check, "0 behind an unreached 255", 1, 0, Mills.at(255, 2), Mills.at(0, 1));
        answers(check, "255 behind an unreached 254", 1, 255, Mills.at(254, 2, 1));
    }

    /** "1 if ..; else 2 if ..; else 3 if ..", whatever the addresses are. */
    private static void order(Check check) {
        // Refused for the unknown at 200, for the second byte at 81 and for the end at 255.
        int[] start = Mills.at(100, 23, 200, 23, 81, 23, 255, 22, 80);
        int[] middle = Mills.at(80, 7, 0, 1);
        answers(check, "1 before 2 and 3", -1200, 100, start, middle, Mills.at(200, 99), Mills.at(0, 1));
        answers(check, "2 before 3", -2081, 100, start, middle, Mills.at(200, 1), Mills.at(0, 1));
        answers(check, "3 alone", -3255, 100, start, Mills.at(80, 1, 1), Mills.at(200, 1), Mills.at(0, 1));
        answers(check, "none", 8, 100, start, Mills.at(80, 1, 1), Mills.at(200, 1), Mills.at(255, 1));
        answers(check, "2 at 255 before 3 at 254", -2255, 100, Mills.at(100, 23, 255, 22, 254), Mills.at(254, 2, 28),
            Mills.at(0, 1));
        answers(check, "1 at 255 before 3 at 254", -1255, 100, Mills.at(100, 23, 255, 22, 254),
            Mills.at(254, 2, 99), Mills.at(0, 1));
        answers(check, "1 at 255 before 2 there", -1255, 254, Mills.at(254, 22, 255));
        answers(check, "1 at 1 before 2 at 0", -1001, 60, Mills.at(60, 23, 255, 22, 0), Mills.at(255, 2),
            Mills.at(0, 0, 99));
    }

    private static void entries(Check check) {
        for (int entry = 0; entry < 256; entry++) {
            TwinMill mill = Mills.with(Mills.at(entry, 1));
            check.same("translate(" + entry + ")", mill.translate(entry), 1);
            check.same("mapped(" + entry + ")", mill.mapped(entry), 0);
            check.same("first PC", mill.look(0, Mills.PC), entry);
            check.same("second PC", mill.look(1, Mills.PC), 0);
            answers(check, "translate(" + entry + ") of an unknown", -1000 - entry, entry, Mills.at(entry, 32));
        }
    }
}
