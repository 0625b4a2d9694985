/** Promise 10. */
public final class LookTest {
    public static void main(String[] args) {
        Check check = new Check("LookTest");
        wrongInputs(check, new TwinMill());
        TwinMill mill = running();
        wrongInputs(check, mill);
        every(check, mill);
        ends(check);
        check.end();
    }

    private static void wrongInputs(Check check, TwinMill mill) {
        for (int machine : new int[] {-1, 2, Integer.MIN_VALUE, Integer.MAX_VALUE}) {
            for (int what = 0; what < 10; what++) {
                check.same("look(" + machine + ", " + what + ")", mill.look(machine, what), TwinMill.NONE);
            }
        }
        for (int what : new int[] {-1, 10, Integer.MIN_VALUE, Integer.MAX_VALUE}) {
            check.same("look(0, " + what + ")", mill.look(0, what), TwinMill.NONE);
            check.same("look(1, " + what + ")", mill.look(1, what), TwinMill.NONE);
        }
    }

    /** The first machine is one instruction further than the second one. */
    private static TwinMill running() {
        TwinMill mill = Mills.at0(2, 3, 29, 7, 1, 15, 4, 11, 29, 1);
        Mills.stepped(mill, 5);
        mill.first(1);
        return mill;
    }

    private static void every(Check check, TwinMill mill) {
        int[] first = {255, 0, 253, 9, 1, 1, 0, 6, 0, 0};
        int[] second = {255, 0, 254, 12, 1, 1, 0, 12, 1, 1};
        for (int what = 0; what < 10; what++) {
            check.same("look(0, " + what + ")", mill.look(0, what), first[what]);
            check.same("look(1, " + what + ")", mill.look(1, what), second[what]);
        }
    }

    private static void ends(Check check) {
        TwinMill mill = Mills.at0(7, 20, 31);
        mill.image(20, 32);
        mill.translate(0);
        mill.first(9);
        mill.second(9);
        check.same("the first one failed", mill.look(0, Mills.STATE), 2);
        check.same("the second one failed", mill.look(1, Mills.STATE), 2);
        mill.image(20, 1);
        mill.translate(0);
        mill.first(9);
        check.same("the first one halted", mill.look(0, Mills.STATE), 1);
        check.same("its instructions", mill.look(0, Mills.DONE), 3);
        check.same("the second one goes on", mill.look(1, Mills.STATE), 0);
        mill.translate(20);
        mill.second(9);
        check.same("the second one halted", mill.look(1, Mills.STATE), 1);
        check.same("its instructions", mill.look(1, Mills.DONE), 1);
        check.same("the first one goes on", mill.look(0, Mills.STATE), 0);
        check.same("the first one's instructions", mill.look(0, Mills.DONE), 0);
    }
}
