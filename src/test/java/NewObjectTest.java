/** Promise 1. */
public final class NewObjectTest {
    public static void main(String[] args) {
        Check check = new Check("NewObjectTest");
        fresh(check, false);
        fresh(check, true);
        check.end();
    }

    /** A refused translation changes nothing, so all of this holds behind one too. */
    private static TwinMill made(boolean refused) {
        TwinMill mill = new TwinMill();
        if (refused) {
            mill.image(0, 99);
            mill.image(1, 1);
            mill.translate(0);
        }
        return mill;
    }

    private static void fresh(Check check, boolean refused) {
        for (int machine = 0; machine < 2; machine++) {
            TwinMill mill = made(refused);
            for (int what = 0; what <= 9; what++) {
                check.same("look(" + machine + ", " + what + ")", mill.look(machine, what), what == 2 ? 255 : 0);
            }
            for (int a = 0; a < 256; a++) {
                check.same("byteAt(" + machine + ", " + a + ")", mill.byteAt(machine, a), 0);
            }
        }
        TwinMill mill = made(refused);
        for (int a = 0; a < 256; a++) {
            check.same("mapped(" + a + ")", mill.mapped(a), TwinMill.NONE);
        }
        check.same("code(0, 0)", mill.code(0, 0), TwinMill.NONE);
        check.same("alike()", mill.alike(), false);
        check.throwing("first(1)", IllegalStateException.class, () -> mill.first(1));
        check.throwing("second(300)", IllegalStateException.class, () -> mill.second(300));
        check.throwing("boundary()", IllegalStateException.class, () -> mill.boundary());
        check.same("code(0, 0) behind them", mill.code(0, 0), TwinMill.NONE);
        // The image is all 0: it runs to 255, which holds a 0.
        if (!refused) {
            check.same("translate(0)", mill.translate(0), -3255);
        }
    }
}
