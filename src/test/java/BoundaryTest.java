/** Promise 6. */
public final class BoundaryTest {
    private static final int[] LENGTHS = {1, 1, 4, 4, 4, 1, 1, 1, 1, 4, 4, 4, 2, 2, 2, 2, 2, 2, 2, 2, 1, 1, 1, 1, 1,
        1, 1, 3, 2, 1, 4, 1};

    public static void main(String[] args) {
        Check check = new Check("BoundaryTest");
        check.throwing("boundary(), nothing translated", IllegalStateException.class, () -> new TwinMill().boundary());
        everyRow(check);
        middle(check);
        ends(check);
        offsets(check);
        atLeastOne(check);
        noneBehindTheEnd(check);
        untranslated(check);
        check.end();
    }

    private static void everyRow(Check check) {
        for (int op = 0; op < 32; op++) {
            TwinMill mill = new TwinMill();
            Mills.put(mill, 0, op, op >= 22 && op <= 27 ? 4 : 1, 1, 0, 1);
            mill.translate(0);
            check.same("boundary() of " + op, mill.boundary(), LENGTHS[op]);
            check.same("counted " + op, mill.look(1, Mills.DONE), LENGTHS[op]);
            check.same("the first machine has not moved", mill.look(0, Mills.DONE), 0);
        }
    }

    private static void middle(Check check) {
        TwinMill mill = Mills.at0(2, 5, 12, 1, 1);
        mill.second(1);
        check.same("from the second of four", mill.boundary(), 3);
        check.same("PC", mill.look(1, Mills.PC), 4);
        check.same("from a beginning", mill.boundary(), 2);
        check.same("PC", mill.look(1, Mills.PC), 6);
        check.same("to the halt", mill.boundary(), 1);
        check.same("halted", mill.look(1, Mills.STATE), 1);
        check.same("none behind the halt", mill.boundary(), 0);
        TwinMill loop = Mills.at0(22, 0);
        check.same("to itself", loop.boundary(), 1);
        check.same("again", loop.boundary(), 1);
        check.same("counted", loop.look(1, Mills.DONE), 2);
    }

    /** From within a row on to the next beginning, whatever has been done of it. */
    private static void offsets(Check check) {
        for (int op = 0; op < 32; op++) {
            for (int did = 1; did < LENGTHS[op]; did++) {
                // 28 pops the byte at 0 and comes back to 10.
                TwinMill mill = new TwinMill();
                Mills.put(mill, 10, op, op >= 22 && op <= 27 ? 30 : 1, 1);
                Mills.put(mill, 30, 1);
                mill.image(0, 10);
                mill.translate(10);
                check.same("second(" + did + ") of " + op, mill.second(did), did);
                check.same("boundary() behind " + did + " of " + op, mill.boundary(), LENGTHS[op] - did);
                int due = op == 28 ? 10 : op == 27 ? 30 : Mills.isTwo(op) ? 12 : 11;
                check.same("PC behind " + op, mill.look(1, Mills.PC), mill.mapped(due));
                check.same("counted", mill.look(1, Mills.DONE), LENGTHS[op]);
            }
        }
    }

    /** "it does at least one instruction": also at a beginning that leads to itself. */
    private static void atLeastOne(Check check) {
        int[][] loops = {{22, 0}, {24, 0, 1}, {26, 0, 1}, {31}};
        for (int[] loop : loops) {
            TwinMill mill = Mills.at0(loop);
            for (int i = 1; i <= 3; i++) {
                check.same("boundary() of " + loop[0] + " to itself", mill.boundary(), 1);
                check.same("PC", mill.look(1, Mills.PC), 0);
                check.same("counted", mill.look(1, Mills.DONE), i);
            }
        }
        TwinMill call = Mills.at0(27, 0, 1);
        check.same("a call of itself", call.boundary(), 3);
        check.same("once more", call.boundary(), 3);
        check.same("SP", call.look(1, Mills.SP), 253);
        // It stops at the beginning of a HALT's code, and comes to the HALT with the next call alone.
        TwinMill halt = Mills.at0(0, 1);
        check.same("to the halt's beginning", halt.boundary(), 1);
        check.same("not halted yet", halt.look(1, Mills.STATE), Mills.GOES_ON);
        check.same("the halt", halt.boundary(), 1);
        check.same("halted", halt.look(1, Mills.STATE), Mills.HALTED);
        check.same("PC", halt.look(1, Mills.PC), 1);
    }

    /** "none if it had before": by whatever call it came to its end. */
    private static void noneBehindTheEnd(Check check) {
        TwinMill halted = Mills.at0(1);
        check.same("second(1)", halted.second(1), 1);
        check.same("boundary() behind a halt", halted.boundary(), 0);
        check.same("counted", halted.look(1, Mills.DONE), 1);
        TwinMill failed = Mills.at0(7, 9, 31);
        check.same("second(2)", failed.second(2), 2);
        check.same("boundary() behind a failure", failed.boundary(), 0);
        check.same("counted", failed.look(1, Mills.DONE), 2);
        check.same("still failed", failed.look(1, Mills.STATE), Mills.FAILED);
        // The first machine's end is none of the second one's.
        TwinMill first = Mills.at0(0, 1);
        first.first(9);
        check.same("boundary() when the first one has halted", first.boundary(), 1);
    }

    private static void untranslated(Check check) {
        TwinMill mill = Mills.with(Mills.at(0, 99));
        check.same("refused", mill.translate(0), -1000);
        check.throwing("boundary() behind a refusal", IllegalStateException.class, mill::boundary);
        mill.image(0, 1);
        check.throwing("boundary() behind an image", IllegalStateException.class, mill::boundary);
        check.same("translated", mill.translate(0), 1);
        check.same("boundary()", mill.boundary(), 1);
    }

    private static void ends(Check check) {
        TwinMill lost = Mills.at0(7, 1, 31);
        check.same("7", lost.boundary(), 1);
        check.same("31 that fails", lost.boundary(), 1);
        check.same("failed", lost.look(1, Mills.STATE), 2);
        check.same("none behind the failure", lost.boundary(), 0);
        TwinMill back = Mills.at0(2, 1, 29, 28);
        check.same("2", back.boundary(), 4);
        check.same("29", back.boundary(), 1);
        check.same("28 that fails", back.boundary(), 2);
        check.same("failed", back.look(1, Mills.STATE), 2);
        check.same("none behind the failure", back.boundary(), 0);
        back.translate(0);
        check.same("4 anew", back.boundary(), 4);
        // The beginnings of an earlier translation are none any more.
        TwinMill anew = Mills.at0(0, 0, 0, 0, 1);
        Mills.put(anew, 0, 2, 5, 1);
        anew.translate(0);
        check.same("4 where rows of one stood", anew.boundary(), 4);
    }
}
