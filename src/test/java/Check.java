import java.util.ArrayList;
import java.util.List;

/** Collects what was wrong in one test and ends it with exit code 1 if anything was. */
final class Check {
    interface Call {
        void run();
    }

    private static final int MOST_TOLD = 20;

    private final String name;
    private final List<String> wrong = new ArrayList<>();
    private int looks;

    Check(String name) {
        this.name = name;
    }

    void same(String what, int got, int want) {
        looks++;
        if (got != want) {
            wrong.add(what + " answered " + got + ", due is " + want);
        }
    }

    void same(String what, boolean got, boolean want) {
        same(what, got ? 1 : 0, want ? 1 : 0);
    }

    void throwing(String what, Class<? extends RuntimeException> due, Call call) {
        looks++;
        Class<?> got = null;
        try {
            call.run();
        } catch (RuntimeException e) {
            got = e.getClass();
        }
        if (got != due) {
            wrong.add(what + " threw " + got + ", due is " + due);
        }
    }

    boolean isFine() {
        return wrong.isEmpty();
    }

    void end() {
        for (int i = 0; i < wrong.size() && i < MOST_TOLD; i++) {
            System.out.println(name + ": " + wrong.get(i));
        }
        System.out.println(name + ": " + looks + " looks, " + wrong.size() + " wrong");
        if (looks == 0 || !wrong.isEmpty()) {
            System.exit(1);
        }
    }
}
