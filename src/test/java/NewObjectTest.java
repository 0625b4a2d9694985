/** Promise 1. */
public final class NewObjectTest {
    public static void main(String[] args) {
        Check check = new Check("NewObjectTest");
        fresh(check, false);
        fresh(check, true);
        wrongInputs(check);
        imageAlone(check);
        besideAnother(check);
        check.end();
    }

    /** A refused translation changes nothing, so all of this holds behind one too. */
    private static TwinMill made(boolean refused) {
        TwinMill mill = new TwinMill();
        if (refused) {
            mill.image(0, 99);
            mill.image(1, 1);
            mill.translate(0);
        }
        return mill;
    }

    /** Before any translation a wrong question is answered, and a wrong call refused, as later on. */
    private static void wrongInputs(Check check) {
        TwinMill mill = new TwinMill();
        for (int wrong : new int[] {-1, 256, Integer.MIN_VALUE, Integer.MAX_VALUE}) {
            check.throwing("image(" + wrong + ", 0)", IllegalArgumentException.class, () -> mill.image(wrong, 0));
            check.throwing("image(0, " + wrong + ")", IllegalArgumentException.class, () -> mill.image(0, wrong));
            check.throwing("translate(" + wrong + ")", IllegalArgumentException.class, () -> mill.translate(wrong));
            check.same("mapped(" + wrong + ")", mill.mapped(wrong), TwinMill.NONE);
            check.same("code(" + wrong + ", 0)", mill.code(wrong, 0), TwinMill.NONE);
            check.same("code(0, " + wrong + ")", mill.code(0, wrong), TwinMill.NONE);
            check.same("look(" + wrong + ", 2)", mill.look(wrong, 2), TwinMill.NONE);
            check.same("look(0, " + wrong + ")", mill.look(0, wrong), TwinMill.NONE);
            check.same("byteAt(" + wrong + ", 0)", mill.byteAt(wrong, 0), TwinMill.NONE);
            check.same("byteAt(1, " + wrong + ")", mill.byteAt(1, wrong), TwinMill.NONE);
        }
        for (int k = 0; k < 1025; k += 32) {
            check.same("code(" + k + ", 0)", mill.code(k, 0), TwinMill.NONE);
        }
        for (int n : new int[] {1, 2, 299, 300}) {
            check.throwing("first(" + n + ")", IllegalStateException.class, () -> mill.first(n));
            check.throwing("second(" + n + ")", IllegalStateException.class, () -> mill.second(n));
        }
        check.throwing("boundary()", IllegalStateException.class, mill::boundary);
        check.same("halted or failed", mill.look(0, Mills.STATE) + mill.look(1, Mills.STATE), 0);
        check.same("instructions", mill.look(0, Mills.DONE) + mill.look(1, Mills.DONE), 0);
    }

    /** An image without a translation reaches neither machine. */
    private static void imageAlone(Check check) {
        TwinMill mill = Mills.with(Mills.at(0, 1, 255));
        check.same("alike()", mill.alike(), false);
        check.same("mapped(0)", mill.mapped(0), TwinMill.NONE);
        check.same("byteAt(0, 1)", mill.byteAt(0, 1), 0);
        check.same("byteAt(1, 1)", mill.byteAt(1, 1), 0);
        check.throwing("first(1)", IllegalStateException.class, () -> mill.first(1));
        check.throwing("second(1)", IllegalStateException.class, () -> mill.second(1));
        check.throwing("boundary()", IllegalStateException.class, mill::boundary);
        check.same("translate(0)", mill.translate(0), 1);
        check.same("first(1)", mill.first(1), 1);
        check.same("boundary()", mill.boundary(), 1);
    }

    /** An object is new whatever another one has done, and does nothing to that one. */
    private static void besideAnother(Check check) {
        TwinMill other = Mills.from(0, Mills.at(0, 15, 1, 29, 10, 5, 90, 27, 9, 1, 28), Mills.at(91, 99));
        other.first(4);
        other.second(300);
        fresh(check, false);
        fresh(check, true);
        Mills.stepped(Mills.at0(7, 3, 29, 22, 0), 9);
        int[] first = {255, 1, 254, 6, 0, 1, Mills.GOES_ON, 4, 0, 0};
        int[] second = {255, 1, 254, 11, 0, 1, Mills.HALTED, 14, 8, 1};
        for (int what = 0; what < 10; what++) {
            check.same("look(0, " + what + ") of the other one", other.look(0, what), first[what]);
            check.same("look(1, " + what + ") of the other one", other.look(1, what), second[what]);
        }
        check.same("the first memory of the other one", other.byteAt(0, 90), 255);
        check.same("the second memory of the other one", other.byteAt(1, 90), 255);
        check.same("where its halt's code begins", other.mapped(8), 11);
        check.same("its first machine goes on", other.first(300), 3);
        check.same("alike()", other.alike(), true);
        check.same("its image is its own", other.translate(91), -1091);
    }

    private static void fresh(Check check, boolean refused) {
        for (int machine = 0; machine < 2; machine++) {
            TwinMill mill = made(refused);
            for (int what = 0; what <= 9; what++) {
                check.same("look(" + machine + ", " + what + ")", mill.look(machine, what), what == 2 ? 255 : 0);
            }
            for (int a = 0; a < 256; a++) {
                check.same("byteAt(" + machine + ", " + a + ")", mill.byteAt(machine, a), 0);
            }
        }
        TwinMill mill = made(refused);
        for (int a = 0; a < 256; a++) {
            check.same("mapped(" + a + ")", mill.mapped(a), TwinMill.NONE);
        }
        check.same("code(0, 0)", mill.code(0, 0), TwinMill.NONE);
        check.same("alike()", mill.alike(), false);
        check.throwing("first(1)", IllegalStateException.class, () -> mill.first(1));
        check.throwing("second(300)", IllegalStateException.class, () -> mill.second(300));
        check.throwing("boundary()", IllegalStateException.class, () -> mill.boundary());
        check.same("code(0, 0) behind them", mill.code(0, 0), TwinMill.NONE);
        // The image is all 0: it runs to 255, which holds a 0.
        if (!refused) {
            check.same("translate(0)", mill.translate(0), -3255);
        }
    }
}
