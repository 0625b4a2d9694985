/** What README.md shows of the class's use: the same calls, with the answers that stand there. */
public final class UseTest {
    public static void main(String[] args) {
        Check check = new Check("UseTest");
        runsBoth(check);
        isRefused(check);
        throwsWhatItSays(check);
        check.end();
    }

    private static void runsBoth(Check check) {
        TwinMill mill = new TwinMill();
        check.same("image(0, 2)", mill.image(0, 2), true);
        mill.image(1, 5);
        mill.image(2, 12);
        mill.image(3, 255);
        mill.image(4, 1);
        check.same("translate(0)", mill.translate(0), 7);
        check.same("mapped(2)", mill.mapped(2), 4);
        check.same("mapped(3)", mill.mapped(3), TwinMill.NONE);
        check.same("code(4, 0)", mill.code(4, 0), 2);
        check.same("code(4, 1)", mill.code(4, 1), 2);
        check.same("code(4, 2)", mill.code(4, 2), 255);
        check.same("first(1)", mill.first(1), 1);
        check.same("alike()", mill.alike(), false);
        check.same("boundary()", mill.boundary(), 4);
        check.same("alike()", mill.alike(), true);
        check.same("first(300)", mill.first(300), 2);
        check.same("second(300)", mill.second(300), 3);
        check.same("look(1, 0)", mill.look(1, 0), 4);
        check.same("look(1, 5)", mill.look(1, 5), 1);
        check.same("look(1, 6)", mill.look(1, 6), 1);
        check.same("byteAt(1, 3)", mill.byteAt(1, 3), 255);
        check.same("alike()", mill.alike(), true);
    }

    private static void isRefused(Check check) {
        TwinMill mill = new TwinMill();
        check.same("translate(9)", mill.translate(9), -3255);
        mill.image(9, 32);
        check.same("translate(9)", mill.translate(9), -1009);
        mill.image(0, 22);
        mill.image(1, 1);
        check.same("translate(0)", mill.translate(0), -2001);
    }

    private static void throwsWhatItSays(Check check) {
        TwinMill mill = new TwinMill();
        check.throwing("image(256, 0)", IllegalArgumentException.class, () -> mill.image(256, 0));
        check.throwing("translate(-1)", IllegalArgumentException.class, () -> mill.translate(-1));
        check.throwing("first(301)", IllegalArgumentException.class, () -> mill.first(301));
        check.throwing("second(0)", IllegalArgumentException.class, () -> mill.second(0));
        check.throwing("first(1)", IllegalStateException.class, () -> mill.first(1));
        check.throwing("second(1)", IllegalStateException.class, () -> mill.second(1));
        check.throwing("boundary()", IllegalStateException.class, mill::boundary);
        check.same("look(2, 0)", mill.look(2, 0), TwinMill.NONE);
    }
}
