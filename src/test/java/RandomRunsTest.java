import java.util.Random;

/** Promises 2 to 11 together: many programs, every answer held against the model's. */
public final class RandomRunsTest {
    private static final int RUNS = 30000;

    public static void main(String[] args) {
        Check check = new Check("RandomRunsTest");
        int[] answers = new int[4];
        int steps = 0;
        int unalike = 0;
        int failed = 0;
        for (int run = 0; run < RUNS && check.isFine(); run++) {
            Random random = new Random(run);
            TwinMill mill = new TwinMill();
            Model model = new Model();
            program(random, mill, model);
            // Two rounds of some 120 calls and 180 looks at the end: an object is good for 512 calls.
            for (int round = 0; round < 2; round++) {
                int entry = random.nextInt(8) == 0 ? 250 + random.nextInt(6) : random.nextInt(12);
                int got = mill.translate(entry);
                check.same("run " + run + " translate(" + entry + ")", got, model.translate(entry));
                answers[got > 0 ? 0 : -got / 1000]++;
                if (!model.code.isEmpty()) {
                    steps += play(check, run, random, mill, model);
                }
                change(random, mill, model);
            }
            unalike += model.alike() ? 0 : 1;
            failed += model.one.state == 2 || model.two.state == 2 ? 1 : 0;
            for (int i = 0; i < 180; i++) {
                inspect(check, run, random, mill, model);
            }
        }
        System.out.println("translated " + answers[0] + ", refused " + answers[1] + ", " + answers[2] + ", "
            + answers[3] + "; instructions " + steps + ", ends not alike " + unalike + ", failed " + failed);
        check.same("there were answers of every kind",
            answers[0] > 500 && answers[1] > 500 && answers[2] > 500 && answers[3] > 500, true);
        check.same("there were runs of every kind", steps > 20000 && unalike > 500 && failed > 500, true);
        check.end();
    }

    private static void set(TwinMill mill, Model model, int a, int v) {
        mill.image(a & 255, v);
        model.image[a & 255] = v;
    }

    private static void change(Random random, TwinMill mill, Model model) {
        for (int i = 0; i < 3; i++) {
            set(mill, model, random.nextInt(256), random.nextInt(34));
        }
    }

    /** Instructions from a low address on, mostly whole ones, whose targets are mostly the beginning of one. */
    private static void program(Random random, TwinMill mill, Model model) {
        int[] starts = new int[40];
        int[] ops = new int[40];
        int start = random.nextInt(4) == 0 ? 256 - random.nextInt(40) : random.nextInt(3);
        int many = 3 + random.nextInt(37);
        int at = start;
        for (int i = 0; i < many; i++) {
            starts[i] = at & 255;
            ops[i] = random.nextInt(400) == 0 ? 32 + random.nextInt(224) : random.nextInt(32);
            boolean two = Mills.isTwo(ops[i]);
            at += two ? 2 : 1;
        }
        for (int i = 0; i < many; i++) {
            boolean jump = ops[i] >= 22 && ops[i] <= 27;
            int operand = jump && random.nextInt(60) > 0 ? starts[random.nextInt(many)]
                : random.nextInt(3) == 0 ? random.nextInt(60) : random.nextInt(256);
            set(mill, model, starts[i] + 1, operand);
            set(mill, model, starts[i], ops[i]);
        }
        if (random.nextInt(6) > 0) {
            set(mill, model, at, random.nextInt(3) == 0 ? 28 : 1);
        }
        set(mill, model, 255, new int[] {0, 1, 28, 31}[random.nextInt(4)]);
    }

    private static int play(Check check, int run, Random random, TwinMill mill, Model model) {
        int did = 0;
        for (int i = 0; i < 5; i++) {
            int n = random.nextInt(4) == 0 ? 1 + random.nextInt(20) : 1;
            switch (random.nextInt(6)) {
                case 0 -> check.same("run " + run + " second(" + n + ")", mill.second(n), model.second(n));
                case 1 -> check.same("run " + run + " boundary()", mill.boundary(), model.boundary());
                case 2 -> check.same("run " + run + " first(" + n + ")", mill.first(n), model.first(n));
                default -> {
                    int got = mill.first(1);
                    check.same("run " + run + " first(1)", got, model.first(1));
                    check.same("run " + run + " boundary()", mill.boundary(), model.boundary());
                    did += got;
                }
            }
            check.same("run " + run + " alike()", mill.alike(), model.alike());
            for (int what = 0; what < 20; what++) {
                check.same("run " + run + " look(" + what / 10 + ", " + what % 10 + ")",
                    mill.look(what / 10, what % 10), model.look(what / 10, what % 10));
            }
        }
        return did;
    }

    private static void inspect(Check check, int run, Random random, TwinMill mill, Model model) {
        int a = random.nextInt(256);
        int k = random.nextInt(model.code.size() + 1);
        int what = random.nextInt(3);
        switch (random.nextInt(4)) {
            case 0 -> check.same("run " + run + " byteAt(0, " + a + ")", mill.byteAt(0, a), model.one.memory[a]);
            case 1 -> check.same("run " + run + " byteAt(1, " + a + ")", mill.byteAt(1, a), model.two.memory[a]);
            case 2 -> check.same("run " + run + " mapped(" + a + ")", mill.mapped(a),
                model.mapped.getOrDefault(a, TwinMill.NONE));
            default -> check.same("run " + run + " code(" + k + ", " + what + ")", mill.code(k, what),
                k < model.code.size() ? model.code.get(k)[what] : TwinMill.NONE);
        }
    }
}
