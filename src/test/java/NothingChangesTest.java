import java.util.List;
import java.util.function.Consumer;
import java.util.function.Supplier;

/**
 * A translation that is refused, a call that throws and a mere question change nothing: what the code,
 * what is mapped and both machines are behind it is held against a mill on which the call was not made.
 */
public final class NothingChangesTest {
    /** What a translation from 100, 110, 120 and 130 on would be refused for: 1, 2, 3 at 254 and 3 at 255. */
    private static final int[][] REFUSED = {Mills.at(100, 0, 23, 200, 10, 99), Mills.at(110, 2, 0, 23, 111, 1),
        Mills.at(120, 12, 5, 22, 254), Mills.at(130, 29, 22, 255), Mills.at(254, 2, 0), Mills.at(200, 1)};

    private static final int[] ANSWERS = {-1104, -2111, -3254, -3255};

    public static void main(String[] args) {
        Check check = new Check("NothingChangesTest");
        refusedOnly(check);
        for (Supplier<TwinMill> state : states()) {
            refused(check, state);
            throwing(check, state);
            questions(check, state);
        }
        goesOn(check);
        imageStays(check);
        check.end();
    }

    private interface Refusal {
        void make(Check check, TwinMill mill);
    }

    private static TwinMill withRefused(TwinMill mill) {
        for (int[] block : REFUSED) {
            for (int i = 1; i < block.length; i++) {
                mill.image(block[0] + i - 1, block[i]);
            }
        }
        return mill;
    }

    /** New; begun; in the middle of rows, with R2, the kept flag and both flags used; halted; failed; long. */
    private static List<Supplier<TwinMill>> states() {
        return List.of(
            NothingChangesTest::untranslated,
            () -> withRefused(Mills.at0(2, 5, 1)),
            NothingChangesTest::middle,
            NothingChangesTest::halted,
            NothingChangesTest::failed,
            NothingChangesTest::longCode);
    }

    /** 0 holds a HALT, for it is behind 254 and 255. */
    private static TwinMill untranslated() {
        return withRefused(Mills.with(Mills.at(0, 1)));
    }

    private static TwinMill middle() {
        TwinMill mill = withRefused(Mills.at0(15, 1, 29, 10, 27, 9, 18, 255, 1, 5, 90, 10, 28));
        mill.first(5);
        mill.second(5);
        return mill;
    }

    private static TwinMill halted() {
        TwinMill mill = withRefused(Mills.at0(2, 0, 29, 7, 3, 6, 60, 1));
        mill.first(300);
        mill.second(300);
        return mill;
    }

    private static TwinMill failed() {
        TwinMill mill = withRefused(Mills.from(0, Mills.at(0, 15, 1, 10, 7, 60, 31), Mills.at(60, 99)));
        mill.first(300);
        mill.second(300);
        return mill;
    }

    private static TwinMill longCode() {
        TwinMill mill = Mills.with(Mills.at(0, 1));
        for (int a = 100; a < 200; a++) {
            mill.image(a, 9 + a % 3);
        }
        mill.image(200, 28);
        mill.translate(100);
        mill.first(90);
        mill.second(7);
        return withRefused(mill);
    }

    private static void same(Check check, String what, Supplier<TwinMill> state, Refusal call) {
        Whole.same(check, what, () -> {
            TwinMill mill = state.get();
            call.make(check, mill);
            return mill;
        }, state);
    }

    /** "or refused, changing nothing". */
    private static void refused(Check check, Supplier<TwinMill> state) {
        for (int i = 0; i < ANSWERS.length; i++) {
            int entry = 100 + 10 * i;
            int due = ANSWERS[i];
            same(check, "refused " + due, state, (c, mill) -> c.same("refused", mill.translate(entry), due));
        }
    }

    private static void throwing(Check check, Supplier<TwinMill> state) {
        same(check, "calls that throw", state, (c, mill) -> {
            c.throwing("image(-1, 0)", IllegalArgumentException.class, () -> mill.image(-1, 0));
            c.throwing("image(0, 256)", IllegalArgumentException.class, () -> mill.image(0, 256));
            c.throwing("translate(-1)", IllegalArgumentException.class, () -> mill.translate(-1));
            c.throwing("translate(256)", IllegalArgumentException.class, () -> mill.translate(256));
            c.throwing("first(0)", IllegalArgumentException.class, () -> mill.first(0));
            c.throwing("first(301)", IllegalArgumentException.class, () -> mill.first(301));
            c.throwing("second(0)", IllegalArgumentException.class, () -> mill.second(0));
            c.throwing("second(301)", IllegalArgumentException.class, () -> mill.second(301));
        });
    }

    private static void questions(Check check, Supplier<TwinMill> state) {
        same(check, "questions", state, (c, mill) -> {
            mill.alike();
            mill.code(-1, 0);
            mill.code(0, 3);
            mill.mapped(256);
            mill.look(2, 0);
            mill.look(1, 10);
            mill.byteAt(1, -1);
            mill.byteAt(2, 0);
        });
    }

    /** Behind a refused translation alone nothing was translated yet. */
    private static void refusedOnly(Check check) {
        for (int i = 0; i < ANSWERS.length; i++) {
            TwinMill mill = untranslated();
            check.same("refused", mill.translate(100 + 10 * i), ANSWERS[i]);
            check.throwing("first(1)", IllegalStateException.class, () -> mill.first(1));
            check.throwing("second(1)", IllegalStateException.class, () -> mill.second(1));
            check.throwing("boundary()", IllegalStateException.class, mill::boundary);
            check.same("alike()", mill.alike(), false);
            check.same("code(0, 0)", mill.code(0, 0), TwinMill.NONE);
            for (int a = 0; a < 256; a++) {
                check.same("mapped(" + a + ")", mill.mapped(a), TwinMill.NONE);
            }
            check.same("first PC", mill.look(0, Mills.PC), 0);
            check.same("the image is not in memory", mill.byteAt(0, 101) + mill.byteAt(1, 101), 0);
        }
    }

    /** Both machines go on from where they were, with the code that they had. */
    private static void goesOn(Check check) {
        for (int i = 0; i < ANSWERS.length; i++) {
            int entry = 100 + 10 * i;
            sameEnd(check, entry, mill -> {
                mill.first(300);
                mill.second(300);
            });
            sameEnd(check, entry, mill -> Mills.stepped(mill, 3));
        }
    }

    private static void sameEnd(Check check, int entry, Consumer<TwinMill> rest) {
        Whole.same(check, "going on behind translate(" + entry + ")", () -> {
            TwinMill mill = middle();
            mill.translate(entry);
            rest.accept(mill);
            return mill;
        }, () -> {
            TwinMill mill = middle();
            rest.accept(mill);
            return mill;
        });
    }

    /** The image is neither taken back nor changed by a translation that is refused. */
    private static void imageStays(Check check) {
        Whole.same(check, "a translation behind a refused one", () -> {
            TwinMill mill = withRefused(Mills.at0(2, 5, 1));
            for (int entry = 100; entry <= 130; entry += 10) {
                mill.translate(entry);
            }
            mill.image(104, 1);
            check.same("mended", mill.translate(100), 8);
            return mill;
        }, () -> {
            TwinMill mill = withRefused(Mills.with(Mills.at(0, 2, 5, 1)));
            mill.image(104, 1);
            mill.translate(100);
            return mill;
        });
    }
}
