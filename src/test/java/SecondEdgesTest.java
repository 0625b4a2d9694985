/** Terms, the second machine: where 26 leads, and what stays of it behind a HALT or a failure. */
public final class SecondEdgesTest {
    public static void main(String[] args) {
        Check check = new Check("SecondEdgesTest");
        everyAddress(check);
        ownSecondByte(check);
        failedReturn(check);
        failedTransfer(check);
        haltedStays(check);
        onlyTheLatestIsMapped(check);
        refusedMapsNothing(check);
        codeIsNotMemory(check);
        keptFlag(check);
        check.end();
    }

    /** 0, the five instructions from 10 on, 60 and 255 are mapped, and no others. */
    private static TwinMill ledTo(int r) {
        return Mills.from(10, Mills.at(0, 1), Mills.at(10, 23, 0, 25, 255, 23, 60, 7, r, 31), Mills.at(60, 28),
            Mills.at(255, 1));
    }

    /** "to the code of the first machine's address r, if that is MAPPED; else it has FAILED". */
    private static void everyAddress(Check check) {
        for (int r = 0; r < 256; r++) {
            TwinMill mill = ledTo(r);
            boolean known = r == 0 || r >= 10 && r <= 18 && r % 2 == 0 || r == 60 || r == 255;
            check.same("mapped(" + r + ")", mill.mapped(r) != TwinMill.NONE, known);
            check.same("second(5) to " + r, mill.second(5), 5);
            check.same("state at " + r, mill.look(1, Mills.STATE), known ? Mills.GOES_ON : Mills.FAILED);
            int due = known ? mill.mapped(r) : mill.mapped(18);
            check.same("PC at " + r, mill.look(1, Mills.PC), due);
            check.same("counted at " + r, mill.look(1, Mills.DONE), 5);
        }
    }

    /** The second byte of a mapped instruction is not mapped, though the first machine can go there. */
    private static void ownSecondByte(Check check) {
        TwinMill mill = Mills.at0(7, 1, 31);
        check.same("first(3)", mill.first(3), 3);
        check.same("the first one halts at 1", mill.look(0, Mills.STATE), Mills.HALTED);
        check.same("second(3)", mill.second(3), 2);
        check.same("the second one fails", mill.look(1, Mills.STATE), Mills.FAILED);
    }

    /** A RETURN that fails has popped already. */
    private static void failedReturn(Check check) {
        TwinMill mill = Mills.from(10, Mills.at(0, 200), Mills.at(10, 15, 1, 28));
        check.same("second(3)", mill.second(3), 3);
        check.same("popped", mill.look(1, Mills.SP), 0);
        check.same("goes on", mill.look(1, Mills.STATE), Mills.GOES_ON);
        check.same("second(300)", mill.second(300), 1);
        stays(check, "a failed return", mill, 255, 0, 0, 3, 0, 1, Mills.FAILED, 4, 200, 0);
    }

    private static void failedTransfer(Check check) {
        TwinMill mill = Mills.from(10, Mills.at(10, 15, 1, 10, 7, 200, 31));
        check.same("boundary()", mill.boundary(), 2);
        check.same("boundary()", mill.boundary(), 4);
        check.same("boundary()", mill.boundary(), 1);
        check.same("boundary() that fails", mill.boundary(), 1);
        stays(check, "a failed transfer", mill, 255, 200, 255, 7, 0, 1, Mills.FAILED, 8, 1, 1);
        check.same("the first one is not touched", mill.look(0, Mills.DONE), 0);
    }

    private static void haltedStays(Check check) {
        TwinMill mill = Mills.at0(15, 1, 10, 1, 0);
        check.same("second(6)", mill.second(6), 6);
        check.same("not halted before it came to the halt", mill.look(1, Mills.STATE), Mills.GOES_ON);
        check.same("second(300)", mill.second(300), 1);
        stays(check, "halted", mill, 255, 1, 255, 6, 0, 1, Mills.HALTED, 7, 1, 1);
        check.same("the first one goes on", mill.first(300), 3);
    }

    private static void stays(Check check, String what, TwinMill mill, int... due) {
        for (int n : new int[] {1, 2, 300}) {
            check.same(what + ": second(" + n + ")", mill.second(n), 0);
            check.same(what + ": boundary()", mill.boundary(), 0);
            for (int part = 0; part < due.length; part++) {
                check.same(what + ": look(1, " + part + ")", mill.look(1, part), due[part]);
            }
        }
    }

    private static void onlyTheLatestIsMapped(Check check) {
        TwinMill mill = Mills.from(0, Mills.at(0, 22, 40), Mills.at(40, 1), Mills.at(10, 7, 40, 31));
        check.same("40 is mapped", mill.mapped(40), 1);
        check.same("translate(10)", mill.translate(10), 2);
        check.same("40 is mapped no more", mill.mapped(40), TwinMill.NONE);
        check.same("second(9)", mill.second(9), 2);
        check.same("26 to what was mapped before", mill.look(1, Mills.STATE), Mills.FAILED);
    }

    private static void refusedMapsNothing(Check check) {
        TwinMill mill = Mills.from(10, Mills.at(10, 7, 40, 31), Mills.at(40, 0, 99));
        check.same("translate(40)", mill.translate(40), -1041);
        check.same("second(9)", mill.second(9), 2);
        check.same("26 to what a refused translation reached", mill.look(1, Mills.STATE), Mills.FAILED);
    }

    /** What is stored over the bytes of a program does not change its code. */
    private static void codeIsNotMemory(Check check) {
        TwinMill mill = Mills.at0(2, 32, 5, 4, 10, 5, 0, 1);
        check.same("second(300)", mill.second(300), 4 + 1 + 4 + 1 + 1);
        check.same("halted", mill.look(1, Mills.STATE), Mills.HALTED);
        check.same("X", mill.look(1, Mills.X), 1);
        check.same("byte at 4", mill.byteAt(1, 4), 32);
        check.same("byte at 0", mill.byteAt(1, 0), 32);
        check.same("code(0, 0)", mill.code(0, 0), 17);
    }

    /** KEEP takes C off as well as on, and BACK gives it back. */
    private static void keptFlag(Check check) {
        TwinMill mill = Mills.at0(15, 1, 10, 15, 1, 10, 1);
        check.same("second(3)", mill.second(3), 3);
        check.same("kept on", mill.look(1, Mills.KEPT), 1);
        check.same("second(5)", mill.second(5), 5);
        check.same("C off", mill.look(1, Mills.C), 0);
        check.same("still kept on", mill.look(1, Mills.KEPT), 1);
        mill.second(1);
        check.same("kept off", mill.look(1, Mills.KEPT), 0);
        mill.second(3);
        check.same("C still off", mill.look(1, Mills.C), 0);
        TwinMill carried = Mills.at0(7, 255, 10, 11, 1);
        carried.second(4);
        check.same("9 R1 R2 carries", carried.look(1, Mills.C), 1);
        carried.second(1);
        check.same("BACK takes the carry off", carried.look(1, Mills.C), 0);
        carried.second(3);
        check.same("11 R1 R2: 1 is greater than 0", carried.look(1, Mills.C), 1);
        carried.second(1);
        check.same("BACK takes it off again", carried.look(1, Mills.C), 0);
        check.same("X", carried.look(1, Mills.X), 255);
    }
}
