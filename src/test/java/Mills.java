/** Makes mills that hold a program. */
final class Mills {
    static final int A = 0;
    static final int X = 1;
    static final int SP = 2;
    static final int PC = 3;
    static final int Z = 4;
    static final int C = 5;
    static final int STATE = 6;
    static final int DONE = 7;
    static final int R2 = 8;
    static final int KEPT = 9;

    private Mills() {
    }

    static void put(TwinMill mill, int start, int... bytes) {
        for (int i = 0; i < bytes.length; i++) {
            mill.image(start + i, bytes[i]);
        }
    }

    /** A mill with bytes from address 0 on, translated from there. */
    static TwinMill at0(int... bytes) {
        TwinMill mill = new TwinMill();
        put(mill, 0, bytes);
        if (mill.translate(0) < 0) {
            throw new IllegalStateException("the program of the test is refused");
        }
        return mill;
    }

    /** Lets the first machine do some instructions, and the second one what they became. */
    static TwinMill stepped(TwinMill mill, int times) {
        for (int i = 0; i < times; i++) {
            mill.first(1);
            mill.boundary();
        }
        return mill;
    }
}
