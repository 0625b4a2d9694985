/** Promise 11. */
public final class ByteAtTest {
    public static void main(String[] args) {
        Check check = new Check("ByteAtTest");
        wrongInputs(check, new TwinMill());
        wrongInputs(check, Mills.at0(1));
        for (int machine = 0; machine < 2; machine++) {
            // Half of the bytes each: an object is good for 512 calls.
            everyByte(check, machine, 1, 128);
            everyByte(check, machine, 129, 255);
        }
        apart(check);
        check.end();
    }

    private static void wrongInputs(Check check, TwinMill mill) {
        for (int wrong : new int[] {-1, 256, Integer.MIN_VALUE, Integer.MAX_VALUE}) {
            check.same("byteAt(0, " + wrong + ")", mill.byteAt(0, wrong), TwinMill.NONE);
            check.same("byteAt(1, " + wrong + ")", mill.byteAt(1, wrong), TwinMill.NONE);
            check.same("byteAt(" + wrong + ", 0)", mill.byteAt(wrong, 0), TwinMill.NONE);
        }
        check.same("byteAt(2, 0)", mill.byteAt(2, 0), TwinMill.NONE);
        check.same("byteAt(2, 256)", mill.byteAt(2, 256), TwinMill.NONE);
    }

    private static void everyByte(Check check, int machine, int from, int to) {
        TwinMill mill = new TwinMill();
        mill.image(0, 1);
        for (int a = from; a <= to; a++) {
            mill.image(a, a * 7 & 255);
        }
        mill.translate(0);
        check.same("byteAt(" + machine + ", 0)", mill.byteAt(machine, 0), 1);
        for (int a = from; a <= to; a++) {
            check.same("byteAt(" + machine + ", " + a + ")", mill.byteAt(machine, a), a * 7 & 255);
        }
    }

    private static void apart(Check check) {
        TwinMill mill = Mills.at0(2, 200, 5, 40, 29, 1);
        mill.first(3);
        check.same("byteAt(0, 40)", mill.byteAt(0, 40), 200);
        check.same("byteAt(0, 255)", mill.byteAt(0, 255), 200);
        check.same("byteAt(1, 40)", mill.byteAt(1, 40), 0);
        mill.second(6);
        check.same("byteAt(1, 40)", mill.byteAt(1, 40), 200);
        check.same("byteAt(1, 255)", mill.byteAt(1, 255), 200);
    }
}
