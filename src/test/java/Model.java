import java.util.ArrayList;
import java.util.List;
import java.util.TreeMap;
import java.util.TreeSet;

/**
 * The document once more, written in another way than the class: the rows of the code are the
 * document's own text, and reach is a set that grows until nothing more comes.
 */
final class Model {
    private static final String[] ROWS = {
        "0", "1", "17; 2 R0 n; 8 R0; 18", "17; 4 R0 n; 8 R0; 18", "17; 6 n; 8 R0; 18", "5 R0 n", "7 n", "2 R1 n",
        "3 R1 R0", "17; 3 R0 R1; 8 R0; 18", "17; 2 R2 1; 9 R1 R2; 18", "17; 2 R2 1; 11 R1 R2; 18",
        "2 R2 n; 9 R0 R2", "4 R2 n; 9 R0 R2", "4 R2 n; 10 R0 R2", "2 R2 n; 11 R0 R2", "4 R2 n; 11 R0 R2",
        "2 R2 n; 12 R0 R2", "2 R2 n; 13 R0 R2", "2 R2 n; 14 R0 R2", "15 R0", "16 R0", "19 target", "20 target",
        "21 target", "22 target", "23 target", "2 R2 behind; 24 R2; 19 target", "25 R2; 26 R2", "24 R0",
        "17; 25 R0; 8 R0; 18", "26 R1"};

    /** One machine; r holds A and X, or R0, R1 and R2. */
    static final class State {
        int[] memory = new int[256];
        int[] r = new int[3];
        int sp = 255;
        int pc;
        int z;
        int c;
        int kept;
        int state;
        int done;

        void z(int v) {
            z = v == 0 ? 1 : 0;
        }

        void push(int v) {
            memory[sp] = v;
            sp = (sp + 255) % 256;
        }

        int pop() {
            sp = (sp + 1) % 256;
            return memory[sp];
        }

        int sum(int whole) {
            c = whole / 256;
            z(whole % 256);
            return whole % 256;
        }

        int minus(int v, int w) {
            int d = (v + 256 - w) % 256;
            z(d);
            c = v < w ? 1 : 0;
            return d;
        }

        int bits(int v) {
            z(v);
            c = 0;
            return v;
        }

        int half(int v) {
            z(v / 2);
            c = v % 2;
            return v / 2;
        }
    }

    final int[] image = new int[256];
    State one = new State();
    State two = new State();
    List<int[]> code = new ArrayList<>();
    TreeMap<Integer, Integer> mapped = new TreeMap<>();

    private static boolean isTwo(int op) {
        return op >= 2 && op <= 7 || op >= 12 && op <= 19 || op >= 22 && op <= 27;
    }

    private TreeSet<Integer> reached(int entry) {
        TreeSet<Integer> all = new TreeSet<>(List.of(entry));
        int before;
        do {
            before = all.size();
            for (int a : all.toArray(new Integer[0])) {
                int op = image[a];
                if (op <= 31 && op != 1 && op != 22 && op != 28 && op != 31) {
                    all.add((a + (isTwo(op) ? 2 : 1)) % 256);
                }
                if (op >= 22 && op <= 27) {
                    all.add(image[(a + 1) % 256]);
                }
            }
        } while (all.size() > before);
        return all;
    }

    private int refusal(TreeSet<Integer> all) {
        for (int a : all) {
            if (image[a] > 31) {
                return -1000 - a;
            }
        }
        TreeSet<Integer> seconds = new TreeSet<>();
        for (int a : all) {
            if (isTwo(image[a])) {
                seconds.add((a + 1) % 256);
            }
        }
        seconds.retainAll(all);
        if (!seconds.isEmpty()) {
            return -2000 - seconds.first();
        }
        if (all.contains(254) && isTwo(image[254]) && image[254] != 22 && image[254] != 27) {
            return -3254;
        }
        boolean ends = image[255] == 1 || image[255] == 28 || image[255] == 31;
        return all.contains(255) && !ends ? -3255 : 0;
    }

    int translate(int entry) {
        TreeSet<Integer> all = reached(entry);
        int refused = refusal(all);
        if (refused != 0) {
            return refused;
        }
        mapped.clear();
        int at = 0;
        for (int a : all) {
            mapped.put(a, at);
            at += ROWS[image[a]].split("; ").length;
        }
        code.clear();
        for (int a : all) {
            for (String one : ROWS[image[a]].split("; ")) {
                code.add(instruction(one.split(" "), a));
            }
        }
        one = new State();
        two = new State();
        one.memory = image.clone();
        two.memory = image.clone();
        one.pc = entry;
        two.pc = mapped.get(entry);
        return code.size();
    }

    private int[] instruction(String[] words, int a) {
        int[] made = {Integer.parseInt(words[0]), 0, 0};
        int n = image[(a + 1) % 256];
        for (int i = 1; i < words.length; i++) {
            String w = words[i];
            if (w.startsWith("R")) {
                made[i] = w.charAt(1) - '0';
            } else if (w.equals("n")) {
                made[2] = n;
            } else if (w.equals("target")) {
                made[2] = mapped.get(n);
            } else if (w.equals("behind")) {
                made[2] = (a + 2) % 256;
            } else {
                made[2] = Integer.parseInt(w);
            }
        }
        return made;
    }

    int first(int n) {
        int did = 0;
        while (did < n && one.state == 0) {
            stepOne(one);
            did++;
            one.done++;
        }
        return did;
    }

    int second(int n) {
        int did = 0;
        while (did < n && two.state == 0) {
            stepTwo(two);
            did++;
            two.done++;
        }
        return did;
    }

    int boundary() {
        int did = 0;
        while (two.state == 0 && (did == 0 || !mapped.containsValue(two.pc))) {
            did += second(1);
        }
        return did;
    }

    boolean alike() {
        return mapped.containsKey(one.pc) && mapped.get(one.pc) == two.pc && one.r[0] == two.r[0]
            && one.r[1] == two.r[1] && one.sp == two.sp && one.z == two.z && one.c == two.c
            && java.util.Arrays.equals(one.memory, two.memory) && (one.state == 1) == (two.state == 1);
    }

    private static void stepOne(State s) {
        int op = s.memory[s.pc];
        int n = s.memory[(s.pc + 1) % 256];
        int at = s.memory[n];
        int far = (n + s.r[1]) % 256;
        int a = s.r[0];
        if (op == 1 || op > 31) {
            s.state = op == 1 ? 1 : 2;
            return;
        }
        s.pc = (s.pc + (isTwo(op) ? 2 : 1)) % 256;
        switch (op) {
            case 2 -> s.z(s.r[0] = n);
            case 3 -> s.z(s.r[0] = at);
            case 4 -> s.z(s.r[0] = s.memory[far]);
            case 5 -> s.memory[n] = a;
            case 6 -> s.memory[far] = a;
            case 7 -> s.r[1] = n;
            case 8 -> s.r[1] = a;
            case 9 -> s.z(s.r[0] = s.r[1]);
            case 10 -> s.z(s.r[1] = (s.r[1] + 1) % 256);
            case 11 -> s.z(s.r[1] = (s.r[1] + 255) % 256);
            case 12 -> s.r[0] = s.sum(a + n);
            case 13 -> s.r[0] = s.sum(a + at);
            case 14 -> s.r[0] = s.sum(a + at + s.c);
            case 15 -> s.r[0] = s.minus(a, n);
            case 16 -> s.r[0] = s.minus(a, at);
            case 17 -> s.r[0] = s.bits(a & n);
            case 18 -> s.r[0] = s.bits(a ^ n);
            case 19 -> s.minus(a, n);
            case 20 -> s.r[0] = s.sum(a + a);
            case 21 -> s.r[0] = s.half(a);
            case 22 -> s.pc = n;
            case 23 -> s.pc = s.z == 1 ? n : s.pc;
            case 24 -> s.pc = s.z == 0 ? n : s.pc;
            case 25 -> s.pc = s.c == 1 ? n : s.pc;
            case 26 -> s.pc = s.c == 0 ? n : s.pc;
            case 27 -> {
                s.push(s.pc);
                s.pc = n;
            }
            case 28 -> s.pc = s.pop();
            case 29 -> s.push(a);
            case 30 -> s.z(s.r[0] = s.pop());
            case 31 -> s.pc = s.r[1];
            default -> { }
        }
    }

    private void stepTwo(State s) {
        int[] now = code.get(s.pc);
        int x = now[1];
        int y = now[2];
        int r = s.r[x];
        int next = s.pc + 1;
        switch (now[0]) {
            case 1 -> {
                s.state = 1;
                next = s.pc;
            }
            case 2 -> s.r[x] = y;
            case 3 -> s.r[x] = s.r[y];
            case 4 -> s.r[x] = s.memory[y];
            case 5 -> s.memory[y] = r;
            case 6 -> s.r[0] = s.memory[(y + s.r[1]) % 256];
            case 7 -> s.memory[(y + s.r[1]) % 256] = s.r[0];
            case 8 -> s.bits(r);
            case 9 -> s.r[x] = s.sum(r + s.r[y]);
            case 10 -> s.r[x] = s.sum(r + s.r[y] + s.c);
            case 11 -> s.r[x] = s.minus(r, s.r[y]);
            case 12 -> s.r[x] = s.bits(r & s.r[y]);
            case 13 -> s.r[x] = s.bits(r ^ s.r[y]);
            case 14 -> s.minus(r, s.r[y]);
            case 15 -> s.r[x] = s.sum(2 * r);
            case 16 -> s.r[x] = s.half(r);
            case 17 -> s.kept = s.c;
            case 18 -> s.c = s.kept;
            case 19 -> next = y;
            case 20 -> next = s.z == 1 ? y : next;
            case 21 -> next = s.z == 0 ? y : next;
            case 22 -> next = s.c == 1 ? y : next;
            case 23 -> next = s.c == 0 ? y : next;
            case 24 -> s.push(r);
            case 25 -> s.r[x] = s.pop();
            case 26 -> {
                next = mapped.getOrDefault(r, s.pc);
                s.state = mapped.containsKey(r) ? 0 : 2;
            }
            default -> { }
        }
        s.pc = next;
    }

    int look(int machine, int what) {
        State s = machine == 0 ? one : two;
        int[] all = {s.r[0], s.r[1], s.sp, s.pc, s.z, s.c, s.state, s.done, s.r[2], s.kept};
        return all[what];
    }
}
