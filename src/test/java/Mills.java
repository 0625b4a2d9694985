/** Makes mills that hold a program. */
final class Mills {
    static final int A = 0;
    static final int X = 1;
    static final int SP = 2;
    static final int PC = 3;
    static final int Z = 4;
    static final int C = 5;
    static final int STATE = 6;
    static final int DONE = 7;
    static final int R2 = 8;
    static final int KEPT = 9;

    static final int GOES_ON = 0;
    static final int HALTED = 1;
    static final int FAILED = 2;

    private Mills() {
    }

    static void put(TwinMill mill, int start, int... bytes) {
        for (int i = 0; i < bytes.length; i++) {
            mill.image(start + i, bytes[i]);
        }
    }

    /** Bytes of the image and where they stand, for a mill that is made of several such. */
    static int[] at(int start, int... bytes) {
        int[] block = new int[bytes.length + 1];
        block[0] = start;
        System.arraycopy(bytes, 0, block, 1, bytes.length);
        return block;
    }

    /** A mill whose image holds the blocks; nothing is translated. */
    static TwinMill with(int[]... blocks) {
        TwinMill mill = new TwinMill();
        for (int[] block : blocks) {
            for (int i = 1; i < block.length; i++) {
                mill.image(block[0] + i - 1, block[i]);
            }
        }
        return mill;
    }

    /** A mill whose image holds the blocks, translated from an entry on. */
    static TwinMill from(int entry, int[]... blocks) {
        TwinMill mill = with(blocks);
        int answer = mill.translate(entry);
        if (answer < 0) {
            throw new IllegalStateException("the program of the test is refused: " + answer);
        }
        return mill;
    }

    /** A mill with bytes from address 0 on, translated from there. */
    static TwinMill at0(int... bytes) {
        return from(0, at(0, bytes));
    }

    /** Lets the first machine do some instructions, and the second one what they became. */
    static TwinMill stepped(TwinMill mill, int times) {
        for (int i = 0; i < times; i++) {
            mill.first(1);
            mill.boundary();
        }
        return mill;
    }

    /** Lets one machine do some instructions of the first one's, or what they became. */
    static void step(TwinMill mill, int machine, int times) {
        for (int i = 0; i < times; i++) {
            if (machine == 0) {
                mill.first(1);
            } else {
                mill.boundary();
            }
        }
    }

    /** The PC that a machine has at an address of the first one. */
    static int place(TwinMill mill, int machine, int address) {
        return machine == 0 ? address : mill.mapped(address);
    }

    static boolean isTwo(int op) {
        return op >= 2 && op <= 7 || op >= 12 && op <= 19 || op >= 22 && op <= 27;
    }
}
