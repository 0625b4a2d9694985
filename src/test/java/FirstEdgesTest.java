/** Terms, the first machine: PC at the ends of memory, HALT and UNKNOWN. */
public final class FirstEdgesTest {
    public static void main(String[] args) {
        Check check = new Check("FirstEdgesTest");
        behind254(check);
        behind255(check);
        callsAtTheEnd(check);
        transfersAtTheEnd(check);
        lastKnown(check);
        everyUnknown(check);
        haltedStays(check);
        failedStays(check);
        writtenBytes(check);
        check.end();
    }

    /** X leads to the last bytes, which no translation would reach. */
    private static TwinMill led(int to, int... bytes) {
        TwinMill mill = Mills.from(10, Mills.at(10, 2, 77, 7, to, 31), Mills.at(to, bytes), Mills.at(0, 50));
        mill.first(3);
        return mill;
    }

    private static void behind254(Check check) {
        TwinMill two = led(254, 2, 9);
        check.same("two bytes at 254", two.first(1), 1);
        check.same("its second byte is at 255", two.look(0, Mills.A), 9);
        check.same("PC behind two bytes at 254", two.look(0, Mills.PC), 0);
        TwinMill one = led(254, 10, 9);
        one.first(1);
        check.same("PC behind one byte at 254", one.look(0, Mills.PC), 255);
    }

    private static void behind255(Check check) {
        TwinMill two = led(255, 2);
        two.first(1);
        check.same("the second byte of 255 is at 0", two.look(0, Mills.A), 50);
        check.same("PC behind two bytes at 255", two.look(0, Mills.PC), 1);
        TwinMill one = led(255, 10);
        one.first(1);
        check.same("X behind one byte at 255", one.look(0, Mills.X), 0);
        check.same("PC behind one byte at 255", one.look(0, Mills.PC), 0);
        TwinMill store = led(255, 5);
        store.first(1);
        check.same("5 at 255 stores at the byte at 0", store.byteAt(0, 50), 77);
        check.same("PC behind 5 at 255", store.look(0, Mills.PC), 1);
    }

    private static void callsAtTheEnd(Check check) {
        TwinMill at254 = led(254, 27, 60);
        at254.first(1);
        check.same("a call at 254: PC", at254.look(0, Mills.PC), 60);
        check.same("a call at 254: what is pushed", at254.byteAt(0, 255), 0);
        check.same("a call at 254: SP", at254.look(0, Mills.SP), 254);
        TwinMill at255 = led(255, 27);
        at255.first(1);
        check.same("a call at 255: PC", at255.look(0, Mills.PC), 50);
        check.same("a call at 255: what is pushed", at255.byteAt(0, 255), 1);
        check.same("a call at 255: SP", at255.look(0, Mills.SP), 254);
    }

    /** Z and C are off: 24 and 26 go, 23 and 25 do not. */
    private static void transfersAtTheEnd(Check check) {
        for (int op = 22; op <= 26; op++) {
            boolean goes = op == 22 || op == 24 || op == 26;
            TwinMill at254 = led(254, op, 60);
            at254.first(1);
            check.same(op + " at 254", at254.look(0, Mills.PC), goes ? 60 : 0);
            TwinMill at255 = led(255, op);
            at255.first(1);
            check.same(op + " at 255", at255.look(0, Mills.PC), goes ? 50 : 1);
        }
    }

    /** "Other bytes: UNKNOWN": 31 is the last that is none. */
    private static void lastKnown(Check check) {
        for (int op = 0; op < 32; op++) {
            TwinMill mill = led(60, op, 70);
            check.same(op + " counts", mill.first(1), 1);
            check.same("state behind " + op, mill.look(0, Mills.STATE), op == 1 ? Mills.HALTED : Mills.GOES_ON);
        }
    }

    private static void everyUnknown(Check check) {
        for (int op = 32; op < 256; op++) {
            TwinMill mill = led(60, op, 70);
            check.same(op + " counts", mill.first(9), 1);
            check.same("state behind " + op, mill.look(0, Mills.STATE), Mills.FAILED);
            check.same("PC behind " + op, mill.look(0, Mills.PC), 60);
        }
    }

    /** "has HALTED, and stays there": nothing of it changes any more. */
    private static void haltedStays(Check check) {
        int[] bytes = {15, 1, 29, 7, 3, 1, 2, 0};
        TwinMill mill = Mills.at0(bytes);
        check.same("first(3)", mill.first(3), 3);
        check.same("not halted before it came to the halt", mill.look(0, Mills.STATE), Mills.GOES_ON);
        check.same("first(300)", mill.first(300), 1);
        stays(check, "halted", mill, 255, 3, 254, 5, 0, 1, Mills.HALTED, 4, 0, 0);
        check.same("the second one goes on", mill.second(300), 5);
    }

    private static void failedStays(Check check) {
        TwinMill mill = Mills.from(0, Mills.at(0, 15, 1, 29, 7, 90, 31), Mills.at(90, 255, 2, 0));
        check.same("first(4)", mill.first(4), 4);
        check.same("not failed before it came to the unknown", mill.look(0, Mills.STATE), Mills.GOES_ON);
        check.same("first(300)", mill.first(300), 1);
        stays(check, "failed", mill, 255, 90, 254, 90, 0, 1, Mills.FAILED, 5, 0, 0);
        check.same("the second one is not touched", mill.look(1, Mills.DONE), 0);
    }

    private static void stays(Check check, String what, TwinMill mill, int... due) {
        for (int n : new int[] {1, 2, 300}) {
            check.same(what + ": first(" + n + ")", mill.first(n), 0);
            for (int part = 0; part < due.length; part++) {
                check.same(what + ": look(0, " + part + ")", mill.look(0, part), due[part]);
            }
            check.same(what + ": the byte that was pushed", mill.byteAt(0, 255), 255);
        }
    }

    /** The machine runs its memory as it is, not as it was translated. */
    private static void writtenBytes(Check check) {
        TwinMill halt = Mills.at0(2, 1, 5, 4, 0, 0, 1);
        check.same("a halt that was written counts", halt.first(300), 3);
        check.same("it has halted", halt.look(0, Mills.STATE), Mills.HALTED);
        TwinMill unknown = Mills.at0(2, 32, 5, 4, 0, 0, 1);
        check.same("an unknown that was written counts", unknown.first(300), 3);
        check.same("it has failed", unknown.look(0, Mills.STATE), Mills.FAILED);
        TwinMill target = Mills.at0(2, 40, 5, 5, 22, 0);
        check.same("a target that was written", target.first(3), 3);
        check.same("PC", target.look(0, Mills.PC), 40);
    }
}
