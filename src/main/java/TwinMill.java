/**
 * Turns programs of one small machine into programs of another one and runs both.
 * The document's promises say what every call answers.
 */
public final class TwinMill {
    public static final int NONE = -1;

    private static final int SIZE = 256;
    private static final int TOP = 255;
    private static final int MOST_STEPS = 300;

    private final int[] source;
    private final Reach reach;
    private final Program program;
    private final FirstMachine firstMachine;
    private final SecondMachine secondMachine;

    public TwinMill() {
        reach = new Reach();
        source = reach.source;
        firstMachine = new FirstMachine();
        secondMachine = new SecondMachine();
        program = secondMachine.program;
    }

    public boolean image(int a, int v) throws IllegalArgumentException {
        checkByte(a);
        checkByte(v);
        source[a] = v;
        return true;
    }

    public int translate(int entry) throws IllegalArgumentException {
        checkByte(entry);
        reach.walk(entry);
        int refusal = reach.refusal();
        if (refusal != 0) {
            return refusal;
        }
        program.build(reach, source);
        firstMachine.begin(source, entry);
        secondMachine.begin(source, program.beginOf(entry));
        return program.size;
    }

    public int first(int n) throws IllegalArgumentException, IllegalStateException {
        checkSteps(n);
        checkTranslated();
        return firstMachine.run(n);
    }

    public int second(int n) throws IllegalArgumentException, IllegalStateException {
        checkSteps(n);
        checkTranslated();
        return secondMachine.run(n);
    }

    public int boundary() throws IllegalStateException {
        checkTranslated();
        return secondMachine.runToBeginning();
    }

    public boolean alike() {
        int begin = program.beginOf(firstMachine.pc);
        return begin != NONE
            && begin == secondMachine.pc
            && firstMachine.hasHalted() == secondMachine.hasHalted()
            && firstMachine.looksLike(secondMachine);
    }

    public int code(int k, int what) {
        return program.part(k, what);
    }

    public int mapped(int a) {
        return program.beginOf(a);
    }

    public int look(int machine, int what) {
        Machine looked = machineOf(machine);
        return looked == null ? NONE : looked.view(what);
    }

    public int byteAt(int machine, int a) {
        Machine looked = machineOf(machine);
        return looked == null || !isByte(a) ? NONE : looked.peek(a);
    }

    private Machine machineOf(int machine) {
        if (machine == 0) {
            return firstMachine;
        }
        return machine == 1 ? secondMachine : null;
    }

    private void checkTranslated() {
        // Every translation that is not refused has the entry's instruction at least.
        if (program.size == 0) {
            throw new IllegalStateException();
        }
    }

    private static void checkSteps(int n) {
        if (n < 1 || n > MOST_STEPS) {
            throw new IllegalArgumentException();
        }
    }

    private static void checkByte(int v) {
        if (!isByte(v)) {
            throw new IllegalArgumentException();
        }
    }

    private static boolean isByte(int v) {
        return v >= 0 && v <= TOP;
    }

    private static int bit(boolean flag) {
        return flag ? 1 : 0;
    }

    /** The first machine's instructions. */
    private static final class FirstOp {
        static final int HALT = 1;
        static final int SET_A = 2;
        static final int LOAD = 3;
        static final int LOAD_INDEXED = 4;
        static final int STORE = 5;
        static final int STORE_INDEXED = 6;
        static final int SET_X = 7;
        static final int A_TO_X = 8;
        static final int X_TO_A = 9;
        static final int GROW_X = 10;
        static final int SHRINK_X = 11;
        static final int ADD = 12;
        static final int ADD_BYTE = 13;
        static final int ADD_BYTE_CARRY = 14;
        static final int SUBTRACT = 15;
        static final int SUBTRACT_BYTE = 16;
        static final int AND = 17;
        static final int XOR = 18;
        static final int COMPARE = 19;
        static final int DOUBLE = 20;
        static final int HALVE = 21;
        static final int GO = 22;
        static final int GO_IF_Z = 23;
        static final int GO_IF_NOT_Z = 24;
        static final int GO_IF_C = 25;
        static final int GO_IF_NOT_C = 26;
        static final int CALL = 27;
        static final int RETURN = 28;
        static final int PUSH_A = 29;
        static final int POP_A = 30;
        static final int GO_X = 31;

        static boolean isUnknown(int op) {
            return op > GO_X;
        }

        static int length(int op) {
            boolean two = op >= SET_A && op <= SET_X || op >= ADD && op <= COMPARE || hasTarget(op);
            return two ? 2 : 1;
        }

        static boolean hasTarget(int op) {
            return op >= GO && op <= CALL;
        }

        static boolean reachesBehind(int op) {
            return op != HALT && op != GO && op != RETURN && op != GO_X;
        }
    }

    /** The second machine's instructions. */
    private static final class SecondOp {
        static final int NOTHING = 0;
        static final int HALT = 1;
        static final int SET = 2;
        static final int COPY = 3;
        static final int LOAD = 4;
        static final int STORE = 5;
        static final int LOAD_INDEXED = 6;
        static final int STORE_INDEXED = 7;
        static final int TEST = 8;
        static final int ADD = 9;
        static final int ADD_CARRY = 10;
        static final int SUBTRACT = 11;
        static final int AND = 12;
        static final int XOR = 13;
        static final int COMPARE = 14;
        static final int DOUBLE = 15;
        static final int HALVE = 16;
        static final int KEEP = 17;
        static final int BACK = 18;
        static final int GO = 19;
        static final int GO_IF_Z = 20;
        static final int GO_IF_NOT_Z = 21;
        static final int GO_IF_C = 22;
        static final int GO_IF_NOT_C = 23;
        static final int PUSH = 24;
        static final int POP = 25;
        static final int GO_MAPPED = 26;

        static boolean hasTarget(int op) {
            return op >= GO && op <= GO_IF_NOT_C;
        }
    }

    /** The image, which of its addresses an entry leads to, and whether they can be translated. */
    private static final class Reach {
        private static final int WHY = 1000;

        private final int[] source;
        private final boolean[] reached;
        private final int[] pending;
        private int found;

        Reach() {
            source = new int[SIZE];
            reached = new boolean[SIZE];
            pending = new int[SIZE];
        }

        boolean has(int a) {
            return isByte(a) && reached[a];
        }

        void walk(int entry) {
            for (int a = 0; a < SIZE; a++) {
                reached[a] = false;
            }
            found = 0;
            mark(entry);
            for (int done = 0; done < found && done < SIZE; done++) {
                follow(pending[done]);
            }
        }

        private void follow(int a) {
            int op = source[a & TOP];
            if (FirstOp.isUnknown(op)) {
                return;
            }
            if (FirstOp.reachesBehind(op)) {
                mark(a + FirstOp.length(op));
            }
            if (FirstOp.hasTarget(op)) {
                mark(source[(a + 1) & TOP]);
            }
        }

        private void mark(int address) {
            int a = address & TOP;
            if (!reached[a] && found < SIZE) {
                reached[a] = true;
                pending[found] = a;
                found++;
            }
        }

        /** 0 when the translation is not refused, else what the refused call answers. */
        int refusal() {
            int a = leastUnknown();
            if (a != NONE) {
                return -WHY - a;
            }
            a = leastOverlap();
            if (a != NONE) {
                return -2 * WHY - a;
            }
            a = leastRunOff();
            return a == NONE ? 0 : -3 * WHY - a;
        }

        private int leastUnknown() {
            for (int a = 0; a < SIZE; a++) {
                if (reached[a] && FirstOp.isUnknown(source[a])) {
                    return a;
                }
            }
            return NONE;
        }

        private int leastOverlap() {
            for (int a = 0; a < SIZE; a++) {
                int before = (a - 1) & TOP;
                if (reached[a] && reached[before] && FirstOp.length(source[before]) == 2) {
                    return a;
                }
            }
            return NONE;
        }

        // The code of 0 does not stand behind that of the last address, so nothing may run on from there.
        private int leastRunOff() {
            int op = source[TOP - 1];
            boolean leaves = op == FirstOp.GO || op == FirstOp.CALL;
            if (reached[TOP - 1] && FirstOp.length(op) == 2 && !leaves) {
                return TOP - 1;
            }
            op = source[TOP];
            boolean ends = op == FirstOp.HALT || op == FirstOp.RETURN || op == FirstOp.GO_X;
            return reached[TOP] && !ends ? TOP : NONE;
        }
    }

    /** The code of the latest translation, and where the code of each mapped address begins. */
    private static final class Program {
        /** A byte becomes four instructions at most. */
        private static final int MOST = 4 * SIZE;

        private static final int R0 = 0;
        private static final int R1 = 1;
        private static final int R2 = 2;

        private final int[] numbers;
        private final int[] xs;
        private final int[] ys;
        private final boolean[] begins;
        private final int[] where;
        private int size;

        Program() {
            numbers = new int[MOST];
            xs = new int[MOST];
            ys = new int[MOST];
            begins = new boolean[MOST];
            where = new int[SIZE];
            for (int a = 0; a < SIZE; a++) {
                where[a] = NONE;
            }
        }

        int beginOf(int a) {
            return isByte(a) ? where[a] : NONE;
        }

        boolean beginsAt(int k) {
            return k >= 0 && k < size && begins[k];
        }

        int part(int k, int what) {
            if (k < 0 || k >= size) {
                return NONE;
            }
            switch (what) {
                case 0: return numbers[k];
                case 1: return xs[k];
                case 2: return ys[k];
                default: return NONE;
            }
        }

        void build(Reach reach, int[] source) {
            size = 0;
            for (int k = 0; k < MOST; k++) {
                begins[k] = false;
            }
            for (int a = 0; a < SIZE; a++) {
                where[a] = NONE;
                if (reach.has(a) && size < MOST) {
                    where[a] = size;
                    begins[size] = true;
                    addRow(source[a], source[(a + 1) & TOP], (a + 2) & TOP);
                }
            }
            fillTargets();
        }

        /** Till now the y of a transfer is an address of the first machine, for its code may stand further on. */
        private void fillTargets() {
            for (int k = 0; k < size; k++) {
                if (SecondOp.hasTarget(numbers[k])) {
                    ys[k] = where[ys[k] & TOP];
                }
            }
        }

        private void addRow(int op, int n, int behindTwo) {
            if (op <= FirstOp.X_TO_A) {
                addMove(op, n);
            } else if (op <= FirstOp.HALVE) {
                addSum(op, n);
            } else {
                addTransfer(op, n, behindTwo);
            }
        }

        private void addMove(int op, int n) {
            switch (op) {
                case FirstOp.HALT: add(SecondOp.HALT, 0, 0); break;
                case FirstOp.SET_A: addTestedA(SecondOp.SET, n); break;
                case FirstOp.LOAD: addTestedA(SecondOp.LOAD, n); break;
                case FirstOp.LOAD_INDEXED: addTestedA(SecondOp.LOAD_INDEXED, n); break;
                case FirstOp.STORE: add(SecondOp.STORE, R0, n); break;
                case FirstOp.STORE_INDEXED: add(SecondOp.STORE_INDEXED, 0, n); break;
                case FirstOp.SET_X: add(SecondOp.SET, R1, n); break;
                case FirstOp.A_TO_X: add(SecondOp.COPY, R1, R0); break;
                case FirstOp.X_TO_A: addTestedA(SecondOp.COPY, R1); break;
                default: add(SecondOp.NOTHING, 0, 0); break;
            }
        }

        private void addSum(int op, int n) {
            switch (op) {
                case FirstOp.GROW_X: addCountedX(SecondOp.ADD); break;
                case FirstOp.SHRINK_X: addCountedX(SecondOp.SUBTRACT); break;
                case FirstOp.ADD: addWithR2(SecondOp.SET, n, SecondOp.ADD); break;
                case FirstOp.ADD_BYTE: addWithR2(SecondOp.LOAD, n, SecondOp.ADD); break;
                case FirstOp.ADD_BYTE_CARRY: addWithR2(SecondOp.LOAD, n, SecondOp.ADD_CARRY); break;
                case FirstOp.SUBTRACT: addWithR2(SecondOp.SET, n, SecondOp.SUBTRACT); break;
                case FirstOp.SUBTRACT_BYTE: addWithR2(SecondOp.LOAD, n, SecondOp.SUBTRACT); break;
                case FirstOp.AND: addWithR2(SecondOp.SET, n, SecondOp.AND); break;
                case FirstOp.XOR: addWithR2(SecondOp.SET, n, SecondOp.XOR); break;
                case FirstOp.COMPARE: addWithR2(SecondOp.SET, n, SecondOp.COMPARE); break;
                case FirstOp.DOUBLE: add(SecondOp.DOUBLE, R0, 0); break;
                default: add(SecondOp.HALVE, R0, 0); break;
            }
        }

        private void addTransfer(int op, int n, int behindTwo) {
            switch (op) {
                case FirstOp.GO: add(SecondOp.GO, 0, n); break;
                case FirstOp.GO_IF_Z: add(SecondOp.GO_IF_Z, 0, n); break;
                case FirstOp.GO_IF_NOT_Z: add(SecondOp.GO_IF_NOT_Z, 0, n); break;
                case FirstOp.GO_IF_C: add(SecondOp.GO_IF_C, 0, n); break;
                case FirstOp.GO_IF_NOT_C: add(SecondOp.GO_IF_NOT_C, 0, n); break;
                case FirstOp.CALL:
                    add(SecondOp.SET, R2, behindTwo);
                    add(SecondOp.PUSH, R2, 0);
                    add(SecondOp.GO, 0, n);
                    break;
                case FirstOp.RETURN:
                    add(SecondOp.POP, R2, 0);
                    add(SecondOp.GO_MAPPED, R2, 0);
                    break;
                case FirstOp.PUSH_A: add(SecondOp.PUSH, R0, 0); break;
                case FirstOp.POP_A: addTestedA(SecondOp.POP, 0); break;
                default: add(SecondOp.GO_MAPPED, R1, 0); break;
            }
        }

        /** A TEST turns C off, where the first machine leaves it alone. */
        private void addTestedA(int number, int y) {
            add(SecondOp.KEEP, 0, 0);
            add(number, R0, y);
            add(SecondOp.TEST, R0, 0);
            add(SecondOp.BACK, 0, 0);
        }

        /** A sum changes C, where the first machine leaves it alone. */
        private void addCountedX(int number) {
            add(SecondOp.KEEP, 0, 0);
            add(SecondOp.SET, R2, 1);
            add(number, R1, R2);
            add(SecondOp.BACK, 0, 0);
        }

        private void addWithR2(int fetch, int n, int number) {
            add(fetch, R2, n);
            add(number, R0, R2);
        }

        private void add(int number, int x, int y) {
            if (size < MOST) {
                numbers[size] = number;
                xs[size] = x;
                ys[size] = y;
                size++;
            }
        }
    }

    /** What both machines have. */
    private abstract static class Machine {
        static final int GOES_ON = 0;
        static final int HALTED = 1;
        static final int FAILED = 2;

        private final int[] memory;
        int accumulator;
        int index;
        int sp;
        int pc;
        boolean z;
        boolean c;
        int state;
        private int done;

        Machine() {
            memory = new int[SIZE];
            sp = TOP;
        }

        /** Does the instruction at PC of a machine that goes on. */
        abstract void step();

        void begin(int[] source, int start) {
            for (int a = 0; a < SIZE && a < source.length; a++) {
                memory[a] = source[a];
            }
            accumulator = 0;
            index = 0;
            sp = TOP;
            pc = start;
            z = false;
            c = false;
            state = GOES_ON;
            done = 0;
        }

        int run(int most) {
            int did = 0;
            while (did < most && state == GOES_ON) {
                step();
                did++;
            }
            done += did;
            return did;
        }

        boolean hasHalted() {
            return state == HALTED;
        }

        boolean looksLike(Machine other) {
            if (accumulator != other.accumulator || index != other.index || sp != other.sp) {
                return false;
            }
            if (z != other.z || c != other.c) {
                return false;
            }
            for (int a = 0; a < SIZE; a++) {
                if (memory[a] != other.memory[a]) {
                    return false;
                }
            }
            return true;
        }

        int view(int what) {
            switch (what) {
                case 0: return accumulator;
                case 1: return index;
                case 2: return sp;
                case 3: return pc;
                case 4: return bit(z);
                case 5: return bit(c);
                case 6: return state;
                case 7: return done;
                case 8: return 0;
                case 9: return 0;
                default: return NONE;
            }
        }

        int peek(int address) {
            return memory[address & TOP];
        }

        void poke(int address, int v) {
            memory[address & TOP] = v & TOP;
        }

        void push(int v) {
            poke(sp, v);
            sp = (sp - 1) & TOP;
        }

        int pop() {
            sp = (sp + 1) & TOP;
            return peek(sp);
        }

        void goIf(boolean when, int target) {
            if (when) {
                pc = target;
            }
        }

        int tested(int v) {
            z = v == 0;
            return v;
        }

        int testedWithoutCarry(int v) {
            c = false;
            return tested(v);
        }

        int sum(int v, int w, boolean carry) {
            int whole = v + w + bit(carry);
            c = whole > TOP;
            return tested(whole & TOP);
        }

        int difference(int v, int w) {
            c = w > v;
            return tested((v - w) & TOP);
        }

        int doubled(int v) {
            c = (v & 128) != 0;
            return tested((2 * v) & TOP);
        }

        int halved(int v) {
            c = (v & 1) != 0;
            return tested(v >> 1);
        }
    }

    /** Runs the bytes of its memory; accumulator is A, index X. */
    private static final class FirstMachine extends Machine {
        void step() {
            int op = peek(pc);
            // Taken before anything is written: a CALL may push onto its own second byte.
            int n = peek(pc + 1);
            if (FirstOp.isUnknown(op)) {
                state = FAILED;
                return;
            }
            if (op == FirstOp.HALT) {
                state = HALTED;
                return;
            }
            pc = (pc + FirstOp.length(op)) & TOP;
            if (op <= FirstOp.X_TO_A) {
                move(op, n);
            } else if (op <= FirstOp.HALVE) {
                reckon(op, n);
            } else {
                transfer(op, n);
            }
        }

        private void move(int op, int n) {
            switch (op) {
                case FirstOp.SET_A: accumulator = tested(n); break;
                case FirstOp.LOAD: accumulator = tested(peek(n)); break;
                case FirstOp.LOAD_INDEXED: accumulator = tested(peek(n + index)); break;
                case FirstOp.STORE: poke(n, accumulator); break;
                case FirstOp.STORE_INDEXED: poke(n + index, accumulator); break;
                case FirstOp.SET_X: index = n; break;
                case FirstOp.A_TO_X: index = accumulator; break;
                case FirstOp.X_TO_A: accumulator = tested(index); break;
                default: break;
            }
        }

        private void reckon(int op, int n) {
            switch (op) {
                case FirstOp.GROW_X: index = tested((index + 1) & TOP); break;
                case FirstOp.SHRINK_X: index = tested((index - 1) & TOP); break;
                case FirstOp.ADD: accumulator = sum(accumulator, n, false); break;
                case FirstOp.ADD_BYTE: accumulator = sum(accumulator, peek(n), false); break;
                case FirstOp.ADD_BYTE_CARRY: accumulator = sum(accumulator, peek(n), c); break;
                case FirstOp.SUBTRACT: accumulator = difference(accumulator, n); break;
                case FirstOp.SUBTRACT_BYTE: accumulator = difference(accumulator, peek(n)); break;
                case FirstOp.AND: accumulator = testedWithoutCarry(accumulator & n); break;
                case FirstOp.XOR: accumulator = testedWithoutCarry(accumulator ^ n); break;
                case FirstOp.COMPARE: difference(accumulator, n); break;
                case FirstOp.DOUBLE: accumulator = doubled(accumulator); break;
                case FirstOp.HALVE: accumulator = halved(accumulator); break;
                default: break;
            }
        }

        /** PC is behind the instruction already. */
        private void transfer(int op, int n) {
            switch (op) {
                case FirstOp.GO: pc = n; break;
                case FirstOp.GO_IF_Z: goIf(z, n); break;
                case FirstOp.GO_IF_NOT_Z: goIf(!z, n); break;
                case FirstOp.GO_IF_C: goIf(c, n); break;
                case FirstOp.GO_IF_NOT_C: goIf(!c, n); break;
                case FirstOp.CALL:
                    push(pc);
                    pc = n;
                    break;
                case FirstOp.RETURN: pc = pop(); break;
                case FirstOp.PUSH_A: push(accumulator); break;
                case FirstOp.POP_A: accumulator = tested(pop()); break;
                case FirstOp.GO_X: pc = index; break;
                default: break;
            }
        }
    }

    /** Runs the code; accumulator is R0, index R1. */
    private static final class SecondMachine extends Machine {
        private final Program program;
        private int r2;
        private boolean kept;

        SecondMachine() {
            program = new Program();
        }

        void begin(int[] source, int start) {
            super.begin(source, start);
            r2 = 0;
            kept = false;
        }

        /** A row has four instructions at most, and transfers lead to beginnings alone: the bound is never met. */
        int runToBeginning() {
            int did = 0;
            boolean arrived = false;
            while (!arrived && state == GOES_ON && did < Program.MOST) {
                run(1);
                did++;
                arrived = program.beginsAt(pc);
            }
            return did;
        }

        int view(int what) {
            if (what == 8) {
                return r2;
            }
            return what == 9 ? bit(kept) : super.view(what);
        }

        void step() {
            int number = program.part(pc, 0);
            int x = program.part(pc, 1);
            int y = program.part(pc, 2);
            if (number == NONE) {
                // No code runs off its end (refusals 1 to 3 see to that); the look is for safety alone.
                state = FAILED;
                return;
            }
            if (number == SecondOp.HALT) {
                state = HALTED;
                return;
            }
            if (number == SecondOp.GO_MAPPED) {
                goMapped(register(x));
                return;
            }
            pc++;
            if (number <= SecondOp.STORE_INDEXED) {
                move(number, x, y);
            } else if (number <= SecondOp.HALVE) {
                reckon(number, x, y);
            } else {
                control(number, x, y);
            }
        }

        private void goMapped(int address) {
            int begin = program.beginOf(address);
            if (begin == NONE) {
                state = FAILED;
            } else {
                pc = begin;
            }
        }

        private void move(int number, int x, int y) {
            switch (number) {
                case SecondOp.SET: setRegister(x, y); break;
                case SecondOp.COPY: setRegister(x, register(y)); break;
                case SecondOp.LOAD: setRegister(x, peek(y)); break;
                case SecondOp.STORE: poke(y, register(x)); break;
                case SecondOp.LOAD_INDEXED: accumulator = peek(y + index); break;
                case SecondOp.STORE_INDEXED: poke(y + index, accumulator); break;
                default: break;
            }
        }

        private void reckon(int number, int x, int y) {
            int r = register(x);
            int s = register(y);
            switch (number) {
                case SecondOp.TEST: testedWithoutCarry(r); break;
                case SecondOp.ADD: setRegister(x, sum(r, s, false)); break;
                case SecondOp.ADD_CARRY: setRegister(x, sum(r, s, c)); break;
                case SecondOp.SUBTRACT: setRegister(x, difference(r, s)); break;
                case SecondOp.AND: setRegister(x, testedWithoutCarry(r & s)); break;
                case SecondOp.XOR: setRegister(x, testedWithoutCarry(r ^ s)); break;
                case SecondOp.COMPARE: difference(r, s); break;
                case SecondOp.DOUBLE: setRegister(x, doubled(r)); break;
                case SecondOp.HALVE: setRegister(x, halved(r)); break;
                default: break;
            }
        }

        private void control(int number, int x, int y) {
            switch (number) {
                case SecondOp.KEEP: kept = c; break;
                case SecondOp.BACK: c = kept; break;
                case SecondOp.GO: pc = y; break;
                case SecondOp.GO_IF_Z: goIf(z, y); break;
                case SecondOp.GO_IF_NOT_Z: goIf(!z, y); break;
                case SecondOp.GO_IF_C: goIf(c, y); break;
                case SecondOp.GO_IF_NOT_C: goIf(!c, y); break;
                case SecondOp.PUSH: push(register(x)); break;
                case SecondOp.POP: setRegister(x, pop()); break;
                default: break;
            }
        }

        private int register(int i) {
            if (i == Program.R0) {
                return accumulator;
            }
            return i == Program.R1 ? index : r2;
        }

        private void setRegister(int i, int v) {
            if (i == Program.R0) {
                accumulator = v;
            } else if (i == Program.R1) {
                index = v;
            } else {
                r2 = v;
            }
        }
    }
}
