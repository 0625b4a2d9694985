import java.util.List;
import java.util.function.Supplier;

/**
 * Promise 3, a second translation after machines have run: "When it is not refused both machines begin".
 * All of it is held against a new mill with the same image.
 */
public final class SecondTranslationTest {
    private static final int[] OTHER = Mills.at(60, 9, 15, 1, 27, 70, 30, 1);
    private static final int[] CALLED = Mills.at(70, 10, 28);

    /** Programs at 0 that end in every way: halted, failed, in a loop. */
    private static final List<int[]> PROGRAMS = List.of(
        Mills.at(0, 15, 1, 29, 10, 5, 90, 6, 91, 1),
        Mills.at(0, 15, 1, 10, 29, 7, 50, 31, 0),
        Mills.at(0, 29, 12, 7, 10, 27, 0, 1),
        Mills.at(0, 2, 0, 29, 11, 30, 18, 0, 22, 0));

    public static void main(String[] args) {
        Check check = new Check("SecondTranslationTest");
        for (int[] program : PROGRAMS) {
            for (int steps : new int[] {1, 3, 5, 6, 7, 300}) {
                another(check, program, steps);
                sameAgain(check, program, steps);
            }
        }
        longerAndShorter(check);
        storesStayOutOfTheImage(check);
        beginsByTheWords(check);
        counts(check);
        check.end();
    }

    private static TwinMill ran(int[] program, int steps) {
        TwinMill mill = Mills.from(0, program, Mills.at(50, 99), OTHER, CALLED);
        mill.first(steps);
        mill.second(steps);
        return mill;
    }

    private static TwinMill fresh(int entry, int[] program) {
        return Mills.from(entry, program, Mills.at(50, 99), OTHER, CALLED);
    }

    private static Supplier<TwinMill> again(int[] program, int steps, int entry) {
        return () -> {
            TwinMill mill = ran(program, steps);
            mill.translate(entry);
            return mill;
        };
    }

    private static void another(Check check, int[] program, int steps) {
        Whole.same(check, "another translation behind " + steps, again(program, steps, 60), () -> fresh(60, program));
    }

    private static void sameAgain(Check check, int[] program, int steps) {
        Whole.same(check, "the same translation behind " + steps, again(program, steps, 0), () -> fresh(0, program));
    }

    /** No instruction, beginning or mapped address of an earlier, longer code is left. */
    private static void longerAndShorter(Check check) {
        int[] bytes = new int[151];
        for (int i = 0; i < 150; i++) {
            bytes[i] = 9 + i % 3;
        }
        bytes[150] = 1;
        int[] large = Mills.at(100, bytes);
        Whole.same(check, "a short code behind a long one", () -> {
            TwinMill mill = Mills.from(100, large, OTHER, CALLED);
            mill.second(300);
            mill.translate(60);
            return mill;
        }, () -> Mills.from(60, large, OTHER, CALLED));
        Whole.same(check, "a long code behind a short one", () -> {
            TwinMill mill = Mills.from(60, large, OTHER, CALLED);
            mill.second(300);
            mill.translate(100);
            return mill;
        }, () -> Mills.from(100, large, OTHER, CALLED));
        TwinMill mill = Mills.from(100, Mills.at(100, 0, 0, 0, 0, 0, 0, 1), OTHER, CALLED);
        mill.translate(60);
        int[] due = {4, 2, 3, 4, 2, 4, 1, 0};
        for (int i = 0; i < due.length; i++) {
            check.same("boundary() " + i + " behind rows of one", mill.boundary(), due[i]);
        }
    }

    /** "memory is the image": what the machines have stored and pushed is gone. */
    private static void storesStayOutOfTheImage(Check check) {
        TwinMill mill = Mills.at0(2, 1, 5, 6, 29, 0, 0, 22, 0);
        check.same("the first one halts at what it stored", mill.first(300), 5);
        mill.second(9);
        check.same("stored", mill.byteAt(0, 6) + mill.byteAt(1, 6), 2);
        check.same("translate(0)", mill.translate(0), 4 + 1 + 1 + 1 + 1 + 1);
        for (int machine = 0; machine < 2; machine++) {
            check.same("byteAt(" + machine + ", 6)", mill.byteAt(machine, 6), 0);
            check.same("byteAt(" + machine + ", 255)", mill.byteAt(machine, 255), 0);
        }
        check.same("code(7, 0)", mill.code(7, 0), 0);
    }

    /** "registers 0, SP 255, flags off, the first PC the entry, the second one where its code begins". */
    private static void beginsByTheWords(Check check) {
        TwinMill mill = ran(PROGRAMS.get(1), 300);
        check.same("both have failed", mill.look(0, Mills.STATE) + mill.look(1, Mills.STATE), 4);
        check.same("kept", mill.look(1, Mills.KEPT), 1);
        check.same("R2", mill.look(1, Mills.R2), 1);
        check.same("C", mill.look(0, Mills.C) + mill.look(1, Mills.C), 2);
        mill.image(60, 22);
        mill.image(61, 6);
        mill.image(6, 1);
        check.same("translate(60)", mill.translate(60), 2);
        int[] first = {0, 0, 255, 60, 0, 0, 0, 0, 0, 0};
        int[] second = {0, 0, 255, 1, 0, 0, 0, 0, 0, 0};
        for (int what = 0; what < 10; what++) {
            check.same("look(0, " + what + ")", mill.look(0, what), first[what]);
            check.same("look(1, " + what + ")", mill.look(1, what), second[what]);
        }
        check.same("alike()", mill.alike(), true);
        check.same("first goes on", mill.first(9), 2);
        check.same("second goes on", mill.second(9), 2);
        check.same("alike() at the halt", mill.alike(), true);
    }

    /** "instructions since it began". */
    private static void counts(Check check) {
        TwinMill mill = Mills.at0(22, 0);
        mill.first(300);
        mill.first(300);
        mill.second(300);
        mill.boundary();
        check.same("first", mill.look(0, Mills.DONE), 600);
        check.same("second", mill.look(1, Mills.DONE), 301);
        mill.translate(0);
        check.same("first anew", mill.look(0, Mills.DONE), 0);
        check.same("second anew", mill.look(1, Mills.DONE), 0);
        mill.first(2);
        mill.second(3);
        check.same("first since", mill.look(0, Mills.DONE), 2);
        check.same("second since", mill.look(1, Mills.DONE), 3);
    }
}
