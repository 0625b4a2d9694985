/** Promise 2. */
public final class ImageTest {
    public static void main(String[] args) {
        Check check = new Check("ImageTest");
        int[][] refused = {{-1, 0}, {256, 0}, {0, -1}, {0, 256}, {-1, 256}, {Integer.MIN_VALUE, 0},
            {0, Integer.MAX_VALUE}, {Integer.MAX_VALUE, Integer.MIN_VALUE}};
        TwinMill mill = new TwinMill();
        for (int[] r : refused) {
            check.throwing("image(" + r[0] + ", " + r[1] + ")", IllegalArgumentException.class,
                () -> mill.image(r[0], r[1]));
        }
        mill.image(0, 1);
        mill.translate(0);
        for (int a = 0; a < 256; a++) {
            check.same("byteAt(0, " + a + ") after refused calls", mill.byteAt(0, a), a == 0 ? 1 : 0);
        }
        everyByte(check);
        onlyTheImage(check);
        overTheProgram(check);
        check.end();
    }

    private static void everyByte(Check check) {
        TwinMill mill = new TwinMill();
        for (int a = 0; a < 256; a++) {
            check.same("image(" + a + ", ..)", mill.image(a, 255 - a), true);
        }
        // 254 holds a HALT then.
        check.same("translate(254)", mill.translate(254), 1);
        TwinMill other = new TwinMill();
        other.image(7, 3);
        other.image(7, 1);
        check.same("translate(7) of a byte set twice", other.translate(7), 1);
        check.same("byteAt(1, 7)", other.byteAt(1, 7), 1);
    }

    private static void onlyTheImage(Check check) {
        TwinMill mill = Mills.at0(1);
        mill.image(9, 44);
        check.same("byteAt(0, 9) before the next translation", mill.byteAt(0, 9), 0);
        check.same("byteAt(1, 9) before the next translation", mill.byteAt(1, 9), 0);
        mill.translate(0);
        check.same("byteAt(0, 9)", mill.byteAt(0, 9), 44);
        check.same("byteAt(1, 9)", mill.byteAt(1, 9), 44);
    }

    /** Bytes laid over a program that was translated change neither its code nor the machines, nor how they go on. */
    private static void overTheProgram(Check check) {
        int[] program = {15, 1, 27, 9, 24, 0, 10, 22, 10, 28, 1};
        for (int before : new int[] {0, 1, 3, 4}) {
            for (int behind : new int[] {0, 1, 300}) {
                Whole.same(check, "image over a program behind " + before + ", before " + behind, () -> {
                    TwinMill mill = run(Mills.at0(program), before);
                    layOver(mill, program.length);
                    return run(mill, behind);
                }, () -> run(run(Mills.at0(program), before), behind));
            }
        }
        TwinMill mill = Mills.at0(program);
        layOver(mill, program.length);
        check.same("the next translation sees it", mill.translate(0), -1000);
    }

    private static void layOver(TwinMill mill, int length) {
        for (int a = 0; a < length; a++) {
            mill.image(a, 99);
        }
    }

    private static TwinMill run(TwinMill mill, int n) {
        if (n > 0) {
            mill.first(n);
            mill.second(n);
        }
        return mill;
    }
}
