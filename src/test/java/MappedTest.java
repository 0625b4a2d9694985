/** Promise 9. */
public final class MappedTest {
    public static void main(String[] args) {
        Check check = new Check("MappedTest");
        TwinMill mill = new TwinMill();
        Mills.put(mill, 0, 1);
        Mills.put(mill, 50, 2, 7, 23, 60, 27, 255, 22, 0);
        Mills.put(mill, 60, 28);
        Mills.put(mill, 255, 28);
        check.same("translate(50)", mill.translate(50), 1 + 4 + 1 + 3 + 1 + 2 + 2);
        int[][] due = {{0, 0}, {50, 1}, {52, 5}, {54, 6}, {56, 9}, {60, 10}, {255, 12}};
        for (int a = 0; a < 256; a++) {
            int begin = TwinMill.NONE;
            for (int[] d : due) {
                begin = d[0] == a ? d[1] : begin;
            }
            check.same("mapped(" + a + ")", mill.mapped(a), begin);
        }
        for (int a : new int[] {-1, 256, 306, Integer.MIN_VALUE, Integer.MAX_VALUE}) {
            check.same("mapped(" + a + ")", mill.mapped(a), TwinMill.NONE);
        }
        latest(check);
        check.end();
    }

    private static void latest(Check check) {
        TwinMill mill = Mills.at0(0, 0, 1);
        mill.image(9, 77);
        mill.translate(9);
        check.same("mapped(9) behind a refused translation", mill.mapped(9), TwinMill.NONE);
        check.same("mapped(2) behind a refused translation", mill.mapped(2), 2);
        mill.translate(1);
        check.same("mapped(0) behind another one", mill.mapped(0), TwinMill.NONE);
        check.same("mapped(1) behind another one", mill.mapped(1), 0);
        check.same("mapped(2) behind another one", mill.mapped(2), 1);
    }
}
