/** Promise 6. */
public final class BoundaryTest {
    private static final int[] LENGTHS = {1, 1, 4, 4, 4, 1, 1, 1, 1, 4, 4, 4, 2, 2, 2, 2, 2, 2, 2, 2, 1, 1, 1, 1, 1,
        1, 1, 3, 2, 1, 4, 1};

    public static void main(String[] args) {
        Check check = new Check("BoundaryTest");
        check.throwing("boundary(), nothing translated", IllegalStateException.class, () -> new TwinMill().boundary());
        everyRow(check);
        middle(check);
        ends(check);
        check.end();
    }

    private static void everyRow(Check check) {
        for (int op = 0; op < 32; op++) {
            TwinMill mill = new TwinMill();
            Mills.put(mill, 0, op, op >= 22 && op <= 27 ? 4 : 1, 1, 0, 1);
            mill.translate(0);
            check.same("boundary() of " + op, mill.boundary(), LENGTHS[op]);
            check.same("counted " + op, mill.look(1, Mills.DONE), LENGTHS[op]);
            check.same("the first machine has not moved", mill.look(0, Mills.DONE), 0);
        }
    }

    private static void middle(Check check) {
        TwinMill mill = Mills.at0(2, 5, 12, 1, 1);
        mill.second(1);
        check.same("from the second of four", mill.boundary(), 3);
        check.same("PC", mill.look(1, Mills.PC), 4);
        check.same("from a beginning", mill.boundary(), 2);
        check.same("PC", mill.look(1, Mills.PC), 6);
        check.same("to the halt", mill.boundary(), 1);
        check.same("halted", mill.look(1, Mills.STATE), 1);
        check.same("none behind the halt", mill.boundary(), 0);
        TwinMill loop = Mills.at0(22, 0);
        check.same("to itself", loop.boundary(), 1);
        check.same("again", loop.boundary(), 1);
        check.same("counted", loop.look(1, Mills.DONE), 2);
    }

    private static void ends(Check check) {
        TwinMill lost = Mills.at0(7, 1, 31);
        check.same("7", lost.boundary(), 1);
        check.same("31 that fails", lost.boundary(), 1);
        check.same("failed", lost.look(1, Mills.STATE), 2);
        check.same("none behind the failure", lost.boundary(), 0);
        TwinMill back = Mills.at0(2, 1, 29, 28);
        check.same("2", back.boundary(), 4);
        check.same("29", back.boundary(), 1);
        check.same("28 that fails", back.boundary(), 2);
        check.same("failed", back.look(1, Mills.STATE), 2);
        check.same("none behind the failure", back.boundary(), 0);
        back.translate(0);
        check.same("4 anew", back.boundary(), 4);
        // The beginnings of an earlier translation are none any more.
        TwinMill anew = Mills.at0(0, 0, 0, 0, 1);
        Mills.put(anew, 0, 2, 5, 1);
        anew.translate(0);
        check.same("4 where rows of one stood", anew.boundary(), 4);
    }
}
