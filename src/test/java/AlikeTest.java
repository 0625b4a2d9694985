/** Promise 7. */
public final class AlikeTest {
    private static final int MEMORY = -1;

    public static void main(String[] args) {
        Check check = new Check("AlikeTest");
        check.same("a new object", new TwinMill().alike(), false);
        check.same("at the beginning", Mills.at0(0, 1).alike(), true);
        places(check);
        halts(check);
        onePartAlone(check);
        notCompared(check);
        notMapped(check);
        haltedOrNot(check);
        check.end();
    }

    private static void places(Check check) {
        TwinMill mill = Mills.at0(0, 0, 1);
        mill.first(1);
        check.same("first ahead", mill.alike(), false);
        mill.second(1);
        check.same("second there too", mill.alike(), true);
        mill.second(1);
        check.same("second ahead", mill.alike(), false);
        TwinMill row = Mills.at0(2, 0, 1);
        row.second(1);
        check.same("in the middle of a row", row.alike(), false);
        TwinMill lost = Mills.at0(7, 20, 31);
        Mills.stepped(lost, 1);
        check.same("before the transfer", lost.alike(), true);
        Mills.stepped(lost, 1);
        check.same("PC is not mapped", lost.mapped(lost.look(0, Mills.PC)), TwinMill.NONE);
        check.same("not alike when PC is not mapped", lost.alike(), false);
    }

    private static void halts(Check check) {
        TwinMill mill = Mills.at0(0, 1);
        Mills.stepped(mill, 1);
        check.same("both before the halt", mill.alike(), true);
        mill.first(1);
        check.same("the first has halted", mill.alike(), false);
        mill.second(1);
        check.same("both have halted", mill.alike(), true);
        TwinMill other = Mills.at0(1);
        other.second(1);
        check.same("the second has halted", other.alike(), false);
    }

    /** Rounds that bring all but one part back to what it was at the beginning. */
    private static void onePartAlone(Check check) {
        round(check, Mills.A, 2, 12, 1, 22, 0);
        round(check, Mills.X, 2, 10, 22, 0);
        round(check, Mills.SP, 2, 29, 22, 0);
        round(check, Mills.Z, 2, 18, 0, 22, 0);
        round(check, Mills.C, 5, 15, 1, 2, 0, 10, 7, 0, 22, 0);
        for (int a : new int[] {0, 2, 90, 254, 255}) {
            round(check, MEMORY, 6, 2, 9, 5, a, 2, 0, 10, 7, 0, 22, 0);
        }
    }

    private static void round(Check check, int part, int steps, int... bytes) {
        TwinMill mill = Mills.at0(bytes);
        mill.first(steps);
        for (int what : new int[] {Mills.A, Mills.X, Mills.SP, Mills.Z, Mills.C}) {
            boolean same = mill.look(0, what) == mill.look(1, what);
            check.same("part " + what + " when " + part + " alone differs", same, what != part);
        }
        check.same("PC", mill.mapped(mill.look(0, Mills.PC)), mill.look(1, Mills.PC));
        check.same("alike when " + part + " alone differs", mill.alike(), false);
        for (int i = 0; i < steps; i++) {
            mill.boundary();
        }
        check.same("alike when the second has gone round too: " + part, mill.alike(), true);
    }

    /** "not alike if it is not mapped", though all else is the same, wherever the second one is. */
    private static void notMapped(Check check) {
        // The target of 22 is stored over: the first machine goes to 20, the second one to the code of 0, at 0.
        TwinMill mill = Mills.at0(2, 20, 5, 5, 22, 0);
        Mills.stepped(mill, 2);
        check.same("before the transfer", mill.alike(), true);
        Mills.stepped(mill, 1);
        check.same("first PC", mill.look(0, Mills.PC), 20);
        check.same("second PC", mill.look(1, Mills.PC), 0);
        check.same("not alike at an address that is not mapped", mill.alike(), false);
        // A second byte is not mapped either.
        TwinMill within = Mills.at0(2, 1, 5, 5, 22, 0);
        Mills.stepped(within, 3);
        check.same("first PC", within.look(0, Mills.PC), 1);
        check.same("not alike at a second byte", within.alike(), false);
        // Mapped, but the code of another address.
        TwinMill other = Mills.at0(2, 4, 5, 5, 22, 0);
        Mills.stepped(other, 3);
        check.same("first PC", other.look(0, Mills.PC), 4);
        check.same("not alike at another mapped address", other.alike(), false);
        // Behind a second translation what was mapped before is none.
        TwinMill anew = Mills.from(0, Mills.at(0, 7, 60, 31), Mills.at(60, 1));
        anew.translate(60);
        anew.translate(0);
        Mills.stepped(anew, 2);
        check.same("not alike at what was mapped before", anew.alike(), false);
    }

    /** "both have HALTED or neither has": X is 1, to which 26 fails, and a byte is stored over the 31 at 6. */
    private static void haltedOrNot(Check check) {
        TwinMill one = Mills.at0(7, 1, 2, 1, 5, 6, 31);
        Mills.stepped(one, 3);
        check.same("neither has halted", one.alike(), true);
        one.second(1);
        check.same("the second has failed, the first goes on", one.alike(), true);
        one.first(1);
        check.same("the first has halted, the second has failed",
            one.look(0, Mills.STATE) * 10 + one.look(1, Mills.STATE), 12);
        check.same("one has halted", one.alike(), false);
        TwinMill none = Mills.at0(7, 1, 2, 99, 5, 6, 31);
        Mills.stepped(none, 4);
        check.same("both have failed", none.look(0, Mills.STATE) * 10 + none.look(1, Mills.STATE), 22);
        check.same("neither has halted when both have failed", none.alike(), true);
        TwinMill both = Mills.at0(10, 1);
        Mills.stepped(both, 1);
        both.second(1);
        check.same("the second has halted", both.alike(), false);
        both.first(1);
        check.same("both have halted", both.alike(), true);
        check.same("and stay alike", both.first(300) + both.second(300) == 0 && both.alike(), true);
    }

    /** R2, the kept flag, counts, and whether one has FAILED, are no parts of the views. */
    private static void notCompared(Check check) {
        TwinMill mill = Mills.at0(15, 1, 10, 1);
        Mills.stepped(mill, 2);
        check.same("R2", mill.look(1, Mills.R2), 1);
        check.same("kept", mill.look(1, Mills.KEPT), 1);
        check.same("alike", mill.alike(), true);
        TwinMill unknown = Mills.at0(2, 99, 5, 4, 0, 1);
        Mills.stepped(unknown, 2);
        unknown.first(1);
        check.same("the first has failed", unknown.look(0, Mills.STATE), 2);
        check.same("alike, though the first has failed", unknown.alike(), true);
        TwinMill lost = Mills.at0(7, 1, 31);
        Mills.stepped(lost, 1);
        lost.boundary();
        check.same("the second has failed", lost.look(1, Mills.STATE), 2);
        check.same("alike, though the second has failed", lost.alike(), true);
    }
}
