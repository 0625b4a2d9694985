import java.util.Random;

/** "An object is used for at most 512 calls": the last of them is answered as well as the first. */
public final class LifeTest {
    private static final int CALLS = 512;
    private static final int LIVES = 400;

    public static void main(String[] args) {
        Check check = new Check("LifeTest");
        mostInstructions(check);
        onlyTranslations(check);
        onlyImages(check);
        onlyThrowing(check);
        onlyQuestions(check);
        int[] answers = new int[4];
        int ran = 0;
        for (int life = 0; life < LIVES && check.isFine(); life++) {
            Life one = new Life(check, life, answers);
            one.live();
            ran += one.model.one.done > 0 && one.model.two.done > 0 ? 1 : 0;
        }
        System.out.println("translated " + answers[0] + ", refused " + answers[1] + ", " + answers[2] + ", "
            + answers[3] + "; both ran at the end of " + ran);
        check.same("there were answers of every kind",
            answers[0] > 500 && answers[1] > 500 && answers[2] > 500 && answers[3] > 500 && ran > 50, true);
        check.end();
    }

    /** An image, a translation, 509 times the most that a call may do, and a look. */
    private static void mostInstructions(Check check) {
        TwinMill first = Mills.with(Mills.at(0, 22));
        TwinMill second = Mills.with(Mills.at(0, 22));
        first.translate(0);
        second.translate(0);
        for (int i = 3; i < CALLS; i++) {
            check.same("first(300)", first.first(300), 300);
            check.same("second(300)", second.second(300), 300);
        }
        check.same("instructions of the first", first.look(0, Mills.DONE), 509 * 300);
        check.same("instructions of the second", second.look(1, Mills.DONE), 509 * 300);
    }

    /** Behind four images; the code of one entry is gone with the next one's, or stays when that is refused. */
    private static void onlyTranslations(Check check) {
        TwinMill mill = Mills.with(Mills.at(0, 2, 5, 1), Mills.at(30, 99));
        int[][] rows = {{0, 5}, {30, -1030}, {2, 1}, {31, -3255}, {1, -1030}};
        for (int i = 4; i < CALLS; i++) {
            int[] row = rows[i % rows.length];
            check.same("translate(" + row[0] + ")", mill.translate(row[0]), row[1]);
        }
    }

    private static void onlyImages(Check check) {
        TwinMill mill = new TwinMill();
        for (int i = 0; i < CALLS - 2; i++) {
            check.same("image(" + i % 256 + ", ..)", mill.image(i % 256, i < 256 ? 99 : 1), true);
        }
        check.same("translate(253)", mill.translate(253), 1);
        check.same("byteAt(1, 254) was not set anew", mill.byteAt(1, 254), 99);
    }

    private static void onlyThrowing(Check check) {
        TwinMill mill = new TwinMill();
        for (int i = 0; i < CALLS - 1; i++) {
            switch (i % 6) {
                case 0 -> check.throwing("image", IllegalArgumentException.class, () -> mill.image(256, 0));
                case 1 -> check.throwing("translate", IllegalArgumentException.class, () -> mill.translate(-1));
                case 2 -> check.throwing("first", IllegalStateException.class, () -> mill.first(1));
                case 3 -> check.throwing("second", IllegalStateException.class, () -> mill.second(300));
                case 4 -> check.throwing("first(301)", IllegalArgumentException.class, () -> mill.first(301));
                default -> check.throwing("boundary", IllegalStateException.class, mill::boundary);
            }
        }
        check.same("SP", mill.look(0, Mills.SP), 255);
    }

    private static void onlyQuestions(Check check) {
        TwinMill mill = Mills.at0(1);
        for (int i = 2; i < CALLS; i++) {
            switch (i % 5) {
                case 0 -> check.same("alike()", mill.alike(), true);
                case 1 -> check.same("code(0, 0)", mill.code(0, 0), 1);
                case 2 -> check.same("mapped(0)", mill.mapped(0), 0);
                case 3 -> check.same("look(1, 2)", mill.look(1, Mills.SP), 255);
                default -> check.same("byteAt(1, 0)", mill.byteAt(1, 0), 1);
            }
        }
    }

    /** Exactly 512 calls of every kind in any order, wrong ones too, each held against the model's answer. */
    private static final class Life {
        private final Check check;
        private final String name;
        private final Random random;
        private final int[] answers;
        private final TwinMill mill = new TwinMill();
        private final Model model = new Model();
        private boolean translated;

        Life(Check check, int number, int[] answers) {
            this.check = check;
            this.answers = answers;
            this.name = "life " + number + ": ";
            this.random = new Random(1000000 + number);
        }

        void live() {
            // A life that is mostly images fills the memory; another one runs a small program for long.
            int images = 20 + random.nextInt(240);
            for (int i = 0; i < CALLS; i++) {
                if (i < images || random.nextInt(20) == 0) {
                    image();
                } else {
                    other();
                }
            }
        }

        private void image() {
            int a = byteOrWrong(60);
            int v = random.nextInt(40) == 0 ? byteOrWrong(4) : random.nextInt(32);
            if (isByte(a) && isByte(v)) {
                model.image[a] = v;
                check.same(name + "image(" + a + ", " + v + ")", mill.image(a, v), true);
            } else {
                check.throwing(name + "image(" + a + ", " + v + ")", IllegalArgumentException.class,
                    () -> mill.image(a, v));
            }
        }

        private void other() {
            switch (random.nextInt(12)) {
                case 0, 1 -> translate();
                case 2, 3 -> run(0);
                case 4 -> run(1);
                case 5, 6 -> boundary();
                case 7 -> check.same(name + "alike()", mill.alike(), model.alike());
                case 8 -> code();
                case 9 -> mapped();
                case 10 -> look();
                default -> byteAt();
            }
        }

        private void translate() {
            int entry = byteOrWrong(10);
            if (isByte(entry)) {
                int due = model.translate(entry);
                translated = translated || due > 0;
                answers[due > 0 ? 0 : -due / 1000]++;
                check.same(name + "translate(" + entry + ")", mill.translate(entry), due);
            } else {
                check.throwing(name + "translate(" + entry + ")", IllegalArgumentException.class,
                    () -> mill.translate(entry));
            }
        }

        private void run(int machine) {
            int n = random.nextInt(3) == 0 ? random.nextInt(304) - 1 : 1 + random.nextInt(9);
            if (n < 1 || n > 300) {
                throwing("run(" + n + ")", IllegalArgumentException.class, machine, n);
            } else if (!translated) {
                throwing("run(" + n + ")", IllegalStateException.class, machine, n);
            } else if (machine == 0) {
                check.same(name + "first(" + n + ")", mill.first(n), model.first(n));
            } else {
                check.same(name + "second(" + n + ")", mill.second(n), model.second(n));
            }
        }

        private void throwing(String what, Class<? extends RuntimeException> due, int machine, int n) {
            check.throwing(name + what, due, () -> {
                if (machine == 0) {
                    mill.first(n);
                } else {
                    mill.second(n);
                }
            });
        }

        private void boundary() {
            if (translated) {
                check.same(name + "boundary()", mill.boundary(), model.boundary());
            } else {
                check.throwing(name + "boundary()", IllegalStateException.class, mill::boundary);
            }
        }

        private void code() {
            int k = random.nextInt(model.code.size() + 3) - 1;
            int what = random.nextInt(5) - 1;
            boolean there = k >= 0 && k < model.code.size() && what >= 0 && what <= 2;
            check.same(name + "code(" + k + ", " + what + ")", mill.code(k, what),
                there ? model.code.get(k)[what] : TwinMill.NONE);
        }

        private void mapped() {
            int a = byteOrWrong(10);
            check.same(name + "mapped(" + a + ")", mill.mapped(a), model.mapped.getOrDefault(a, TwinMill.NONE));
        }

        private void look() {
            int machine = random.nextInt(20) == 0 ? 2 : random.nextInt(2);
            int what = random.nextInt(12) - 1;
            boolean there = machine < 2 && what >= 0 && what <= 9;
            check.same(name + "look(" + machine + ", " + what + ")", mill.look(machine, what),
                there ? model.look(machine, what) : TwinMill.NONE);
        }

        private void byteAt() {
            int machine = random.nextInt(2);
            int a = byteOrWrong(10);
            Model.State s = machine == 0 ? model.one : model.two;
            check.same(name + "byteAt(" + machine + ", " + a + ")", mill.byteAt(machine, a),
                isByte(a) ? s.memory[a] : TwinMill.NONE);
        }

        private int byteOrWrong(int seldom) {
            if (random.nextInt(seldom) > 0) {
                return random.nextInt(256);
            }
            return random.nextBoolean() ? -1 - random.nextInt(3) : 256 + random.nextInt(3);
        }

        private static boolean isByte(int v) {
            return v >= 0 && v <= 255;
        }
    }
}
