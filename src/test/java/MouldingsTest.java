/** Promises 13 to 18: mouldings, repeats, tiles. */
public final class MouldingsTest {
    private static final Class<IndexOutOfBoundsException> INDEX = IndexOutOfBoundsException.class;
    private static final Class<IllegalArgumentException> ARGUMENT = IllegalArgumentException.class;
    private static final Class<IllegalStateException> STATE = IllegalStateException.class;
    private static final Check check = new Check("MouldingsTest");

    public static void main(String[] args) {
        promise13Profile();
        promise14Depth();
        promise15Mitre();
        promise16Fits();
        promise17Step();
        promise18Cut();
        promise18CutWithoutCuts();
        check.finish();
    }

    private static void promise13Profile() {
        Stuccohand x = new Stuccohand();
        check.fails("profile(0)", ARGUMENT, () -> x.profile(0));
        check.fails("profile(101)", ARGUMENT, () -> x.profile(101));
        for (int i = 0; i < 10; i++) {
            check.due("profile " + i, i, x.profile(i < 5 ? 1 : 100));
        }
        check.fails("an eleventh profile", STATE, () -> x.profile(1));
        check.fails("an eleventh profile, too deep", ARGUMENT, () -> x.profile(101));
        check.due("its first depth", 1f / 101f, x.mitre(0, 9));
    }

    private static void promise14Depth() {
        Stuccohand x = new Stuccohand();
        check.fails("depth(0, 0)", INDEX, () -> x.depth(0, 0));
        x.profile(50);
        check.fails("depth(-1, 1)", INDEX, () -> x.depth(-1, 1));
        check.fails("depth(1, 1)", INDEX, () -> x.depth(1, 1));
        check.fails("depth(0, 0)", ARGUMENT, () -> x.depth(0, 0));
        check.fails("depth(0, 101)", ARGUMENT, () -> x.depth(0, 101));
        for (int i = 2; i <= 8; i++) {
            check.due("depth " + i, i, x.depth(0, i == 2 ? 100 : 1));
        }
        check.fails("a ninth depth", STATE, () -> x.depth(0, 1));
        check.fails("a ninth depth, too deep", ARGUMENT, () -> x.depth(0, 101));
    }

    private static void promise15Mitre() {
        Stuccohand x = new Stuccohand();
        x.profile(30);
        x.profile(10);
        x.depth(1, 90);
        x.profile(1);
        x.depth(2, 100);
        x.depth(2, 7);
        check.due("mitre of one with itself", 0.5f, x.mitre(1, 1));
        check.due("the first of two places as far", 0.75f, x.mitre(0, 1));
        check.due("the other way round", 0.25f, x.mitre(1, 0));
        check.due("the last depth of the shorter one", 1f / 31f, x.mitre(2, 0));
        check.due("the longer one as other", 30f / 31f, x.mitre(0, 2));
        check.due("the third place by the second depth", 90f / 97f, x.mitre(1, 2));
        x.depth(2, 1);
        check.due("a farther place at the end", 90f / 91f, x.mitre(1, 2));
        Stuccohand y = new Stuccohand();
        y.profile(1);
        y.depth(0, 2);
        y.profile(2);
        y.depth(1, 1);
        // As floats 2/3 is a little farther from 0.5 than 1/3 is.
        check.due("1/3 and 2/3 as floats", 2f / 3f, y.mitre(0, 1));
        check.due("2/3 and 1/3 as floats", 2f / 3f, y.mitre(1, 0));
        check.fails("mitre(2, 0)", INDEX, () -> y.mitre(2, 0));
        check.fails("mitre(0, 2)", INDEX, () -> y.mitre(0, 2));
        check.fails("mitre(-1, 0)", INDEX, () -> y.mitre(-1, 0));
        check.fails("mitre(0, -1)", INDEX, () -> y.mitre(0, -1));
    }

    private static void promise16Fits() {
        Stuccohand x = new Stuccohand();
        int[][] dues = {{100, 30, 3}, {10, 30, 1}, {30, 30, 1}, {45, 30, 2}, {40, 30, 1}, {41, 30, 2}, {4, 3, 1},
            {8, 6, 1}, {12, 5, 2}, {24, 10, 2}, {25, 10, 3}, {1, 1, 1}, {1, 100000, 1}, {100000, 1, 100000},
            {100000, 2, 50000}, {100000, 3, 33333}, {99999, 100000, 1}, {100000, 66666, 2}, {100000, 75000, 1}};
        for (int[] due : dues) {
            check.due("fits(" + due[0] + ", " + due[1] + ")", due[2], x.fits(due[0], due[1]));
        }
        int[][] wrong = {{0, 1}, {1, 0}, {100001, 1}, {1, 100001}, {-1, -1}, {Integer.MIN_VALUE, 1}, {1, Integer.MAX_VALUE}};
        for (int[] args : wrong) {
            check.fails("fits(" + args[0] + ", " + args[1] + ")", ARGUMENT, () -> x.fits(args[0], args[1]));
        }
    }

    private static void promise17Step() {
        Stuccohand x = new Stuccohand();
        check.due("step(100, 30)", 100f / 3f, x.step(100, 30));
        check.due("step(45, 30)", 22.5f, x.step(45, 30));
        check.due("step(10, 30)", 10f, x.step(10, 30));
        check.due("step(100000, 1)", 1f, x.step(100000, 1));
        check.due("step(100000, 14)", 100000f / 7143f, x.step(100000, 14));
        int[][] wrong = {{0, 1}, {1, 0}, {100001, 1}, {1, 100001}, {-1, -1}};
        for (int[] args : wrong) {
            check.fails("step(" + args[0] + ", " + args[1] + ")", ARGUMENT, () -> x.step(args[0], args[1]));
        }
    }

    private static void promise18Cut() {
        Stuccohand x = new Stuccohand();
        // by the tile in the middle and by the joint: 115 and 35, 130 and 50, 120 and 120, 124 and 44
        int[][] dues = {{2000, 150, 10, 115}, {2030, 150, 10, 130}, {2010, 150, 10, 120}, {2019, 150, 10, 124},
            {2000, 1000, 20, 990}, {2000, 1000, 0, 0}, {2000, 999, 0, 500}, {100000, 1000, 20, 520}};
        for (int[] due : dues) {
            check.due("cut(" + due[0] + ", " + due[1] + ", " + due[2] + ")", due[3], x.cut(due[0], due[1], due[2]));
        }
        int[][] wrong = {{1999, 1, 0}, {100001, 1, 0}, {2000, 0, 0}, {2000, 1001, 0}, {2000, 1, -1}, {2000, 1, 21},
            {Integer.MAX_VALUE, 1, 0}, {2000, Integer.MIN_VALUE, 0}, {2000, 1, Integer.MAX_VALUE}};
        for (int[] args : wrong) {
            String call = "cut(" + args[0] + ", " + args[1] + ", " + args[2] + ")";
            check.fails(call, ARGUMENT, () -> x.cut(args[0], args[1], args[2]));
        }
    }

    private static void promise18CutWithoutCuts() {
        Stuccohand x = new Stuccohand();
        check.due("the tile in the middle ends with a tile", 0, x.cut(150 + 12 * 160, 150, 10));
        check.due("the tile in the middle ends in a joint", 0, x.cut(150 + 12 * 160 + 14, 150, 10));
        check.due("the tile in the middle ends with a joint", 0, x.cut(150 + 12 * 160 + 20, 150, 10));
        check.due("a tile of 1 is left by the tile in the middle", 81, x.cut(150 + 12 * 160 + 22, 150, 10));
        check.due("the joint in the middle ends with a tile", 0, x.cut(10 + 12 * 160 + 300, 150, 10));
        check.due("the joint in the middle ends with a joint", 0, x.cut(10 + 14 * 160, 150, 10));
        check.due("a millimetre of the run is left over", 0, x.cut(150 + 12 * 160 + 1, 150, 10));
        check.due("tiles of 1 without joints", 0, x.cut(2000, 1, 0));
        check.due("tiles of 1 with joints", 0, x.cut(2000, 1, 20));
    }
}
