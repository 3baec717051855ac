/** Each line of the promises 13 to 18, on what an argument may be, what is returned and what is thrown, at its edges. */
public final class LinesOfMouldingsTest {
    private static final Class<IndexOutOfBoundsException> INDEX = Check.INDEX;
    private static final Class<IllegalArgumentException> ARGUMENT = Check.ARGUMENT;
    private static final Class<IllegalStateException> STATE = Check.STATE;
    private static final Check check = new Check("LinesOfMouldingsTest");

    public static void main(String[] args) {
        profile();
        depth();
        depthThrows();
        mitre();
        fits();
        step();
        cut();
        cutThrows();
        check.finish();
    }

    private static Stuccohand withProfiles(int count) {
        Stuccohand x = new Stuccohand();
        for (int i = 0; i < count; i++) {
            x.profile(50);
        }
        return x;
    }

    private static void profile() {
        check.says(13, "`depth`: 1 to 100");
        check.range("depth", 1, 100, ARGUMENT, n -> new Stuccohand().profile(n));
        Stuccohand ends = new Stuccohand();
        ends.profile(1);
        ends.profile(100);
        check.due("the least depth beside the most", 1f / 101f, ends.mitre(0, 1));
        check.says(13, "Returns its number.");
        Stuccohand x = new Stuccohand();
        for (int i = 0; i < 10; i++) {
            check.due("profile " + i, i, x.profile(i + 1));
        }
        check.says(13, "Throws `IllegalArgumentException` if depth is out of range");
        check.fails("depth 0", ARGUMENT, () -> new Stuccohand().profile(0));
        check.fails("depth 101", ARGUMENT, () -> new Stuccohand().profile(101));
        check.fails("depth 0, and there are 10", ARGUMENT, () -> x.profile(0));
        check.fails("depth 101, and there are 10", ARGUMENT, () -> x.profile(101));
        Stuccohand y = new Stuccohand();
        check.fails("refused", ARGUMENT, () -> y.profile(101));
        check.due("a refused one takes no number", 0, y.profile(1));
        check.says(13, "Throws `IllegalStateException` if there are 10");
        check.fails("an eleventh one", STATE, () -> x.profile(1));
        check.fails("there is no eleventh one", INDEX, () -> x.mitre(10, 0));
        check.due("the tenth one is left as it is", 10f / 11f, x.mitre(9, 0));
        check.due("a tenth one", 9, withProfiles(9).profile(1));
    }

    private static void depth() {
        check.says(14, "`profile`: a profile");
        check.fails("none yet", INDEX, () -> new Stuccohand().depth(0, 1));
        check.range("profile of 1", 0, 0, INDEX, n -> withProfiles(1).depth(n, 1));
        check.range("profile of 10", 0, 9, INDEX, n -> withProfiles(10).depth(n, 1));
        check.says(14, "`depth`: 1 to 100");
        check.range("depth", 1, 100, ARGUMENT, n -> withProfiles(1).depth(0, n));
        Stuccohand ends = withProfiles(2);
        ends.depth(0, 1);
        ends.depth(1, 100);
        check.due("the least depth beside the most", 1f / 101f, ends.mitre(0, 1));
        check.says(14, "Returns how many it has then.");
        Stuccohand x = withProfiles(2);
        for (int count = 2; count <= 8; count++) {
            check.due("depth " + count, count, x.depth(0, 10));
        }
        check.due("the other one has two", 2, x.depth(1, 10));
    }

    private static void depthThrows() {
        Stuccohand x = withProfiles(3);
        for (int count = 2; count <= 8; count++) {
            x.depth(0, 60);
        }
        check.says(14, "Throws `IndexOutOfBoundsException` if there is no such profile");
        check.fails("profile 3, depth 0", INDEX, () -> x.depth(3, 0));
        check.fails("profile -1, depth 101", INDEX, () -> x.depth(-1, 101));
        check.fails("profile 3", INDEX, () -> x.depth(3, 1));
        check.says(14, "Throws `IllegalArgumentException` if depth is out of range");
        check.fails("depth 0 of one that has 8", ARGUMENT, () -> x.depth(0, 0));
        check.fails("depth 101 of one that has 8", ARGUMENT, () -> x.depth(0, 101));
        check.fails("depth 101 of one that has 1", ARGUMENT, () -> x.depth(1, 101));
        check.due("a refused one is not counted", 2, x.depth(1, 50));
        check.says(14, "Throws `IllegalStateException` if it has 8");
        check.fails("a ninth one", STATE, () -> x.depth(0, 100));
        check.fails("and again", STATE, () -> x.depth(0, 1));
        check.due("its last depth stays", 60f / 110f, x.mitre(0, 2));
        check.due("another one has place", 3, x.depth(1, 100));
    }

    private static void mitre() {
        check.says(15, "`profile`: a profile");
        check.fails("none yet", INDEX, () -> new Stuccohand().mitre(0, 0));
        check.range("profile of 1", 0, 0, INDEX, n -> withProfiles(1).mitre(n, 0));
        check.range("profile of 10", 0, 9, INDEX, n -> withProfiles(10).mitre(n, 0));
        check.says(15, "`other`: a profile");
        check.range("other of 1", 0, 0, INDEX, n -> withProfiles(1).mitre(0, n));
        check.range("other of 10", 0, 9, INDEX, n -> withProfiles(10).mitre(0, n));
        check.says(15, "Returns the mitre.");
        check.due("of one with itself", 0.5f, withProfiles(1).mitre(0, 0));
        for (int places = 2; places <= 8; places++) {
            Stuccohand x = withProfiles(2);
            for (int i = 2; i < places; i++) {
                x.depth(0, 50);
            }
            x.depth(0, 100);
            check.due("by place " + places + " of the first one", 100f / 150f, x.mitre(0, 1));
            check.due("by place " + places + " of the other one", 50f / 150f, x.mitre(1, 0));
            check.due("of the longer one with itself", 0.5f, x.mitre(0, 0));
        }
        check.says(15, "Throws `IndexOutOfBoundsException` if there is no such profile, of either");
        Stuccohand x = withProfiles(2);
        check.fails("mitre(2, 0)", INDEX, () -> x.mitre(2, 0));
        check.fails("mitre(0, 2)", INDEX, () -> x.mitre(0, 2));
        check.fails("mitre(-1, 1)", INDEX, () -> x.mitre(-1, 1));
        check.fails("mitre(1, -1)", INDEX, () -> x.mitre(1, -1));
        check.fails("mitre(2, 2)", INDEX, () -> x.mitre(2, 2));
    }

    private static void fits() {
        Stuccohand x = new Stuccohand();
        check.says(16, "`run`: 1 to 100000");
        check.range("run", 1, 100000, ARGUMENT, n -> x.fits(n, 3));
        check.says(16, "`repeat`: 1 to 100000");
        check.range("repeat", 1, 100000, ARGUMENT, n -> x.fits(7, n));
        check.says(16, "Returns how many times.");
        check.due("the shortest run", 1, x.fits(1, 1));
        check.due("the shortest run, the longest repeat", 1, x.fits(1, 100000));
        check.due("the longest run, the shortest repeat", 100000, x.fits(100000, 1));
        check.due("the longest of both", 1, x.fits(100000, 100000));
        check.due("twice and a part", 2, x.fits(229, 100));
        check.due("of twice and three times the fewer", 2, x.fits(240, 100));
        check.due("a little longer", 3, x.fits(241, 100));
        check.says(16, "Throws `IllegalArgumentException` if run or repeat is out of range");
        int[][] wrong = {{0, 1}, {1, 0}, {100001, 1}, {1, 100001}, {0, 0}, {100001, 100001}, {-1, 5}, {5, -1}};
        for (int[] row : wrong) {
            check.fails("fits(" + row[0] + ", " + row[1] + ")", ARGUMENT, () -> x.fits(row[0], row[1]));
        }
    }

    private static void step() {
        Stuccohand x = new Stuccohand();
        check.says(17, "`run`: 1 to 100000");
        check.range("run", 1, 100000, ARGUMENT, n -> x.step(n, 3));
        check.says(17, "`repeat`: 1 to 100000");
        check.range("repeat", 1, 100000, ARGUMENT, n -> x.step(7, n));
        check.says(17, "Returns the step.");
        for (int run = 1; run <= 100; run++) {
            for (int repeat = 1; repeat <= 100; repeat++) {
                float due = (float) ((double) run / x.fits(run, repeat));
                check.due("step(" + run + ", " + repeat + ")", due, x.step(run, repeat));
            }
        }
        check.due("the shortest run", 1f, x.step(1, 100000));
        check.due("the longest run once", 100000f, x.step(100000, 100000));
        check.due("the longest run, the most times", 1f, x.step(100000, 1));
        check.due("of two the longer one", 120f, x.step(240, 100));
        check.says(17, "Throws `IllegalArgumentException` if run or repeat is out of range");
        int[][] wrong = {{0, 1}, {1, 0}, {100001, 1}, {1, 100001}, {0, 0}, {100001, 100001}, {-1, 5}, {5, -1}};
        for (int[] row : wrong) {
            check.fails("step(" + row[0] + ", " + row[1] + ")", ARGUMENT, () -> x.step(row[0], row[1]));
        }
    }

    private static void cut() {
        Stuccohand x = new Stuccohand();
        check.says(18, "`run`: 2000 to 100000");
        check.range("run", 2000, 100000, ARGUMENT, n -> x.cut(n, 150, 10));
        check.due("the shortest run: 115 and 35", 115, x.cut(2000, 150, 10));
        check.due("the longest run: none and 75", 0, x.cut(100000, 150, 10));
        check.due("the longest run: 568 and 59", 568, x.cut(100000, 999, 20));
        check.says(18, "`tile`: 1 to 1000: the width");
        check.range("tile", 1, 1000, ARGUMENT, n -> x.cut(2000, n, 10));
        check.due("a tile of 1 is never cut", 0, x.cut(2000, 1, 10));
        check.due("the widest tile: 480 and 990", 990, x.cut(2000, 1000, 20));
        check.due("the widest tile: 999 and 499", 999, x.cut(2999, 1000, 0));
        check.says(18, "`joint`: 0 to 20");
        check.range("joint", 0, 20, ARGUMENT, n -> x.cut(2000, 150, n));
        check.due("no joint: 25 and 100", 100, x.cut(2000, 150, 0));
        check.due("the widest joint: 55 and 140", 140, x.cut(2000, 150, 20));
        check.says(18, "Returns the width, 0 if no tile is cut.");
        int[][] dues = {{2980, 1000, 20, 970}, {3001, 1000, 0, 0}, {3002, 1000, 0, 501}, {2000, 3, 0, 2}, {2001, 3, 0, 0},
            {2000, 170, 0, 150}, {2010, 170, 20, 140}, {2020, 1000, 20, 0}, {2300, 1000, 20, 630}};
        for (int[] due : dues) {
            check.due("cut(" + due[0] + ", " + due[1] + ", " + due[2] + ")", due[3], x.cut(due[0], due[1], due[2]));
        }
    }

    private static void cutThrows() {
        check.says(18, "Throws `IllegalArgumentException` if run, tile or joint is out of range");
        Stuccohand x = new Stuccohand();
        int[][] wrong = {{1999, 1, 0}, {100001, 1, 0}, {2000, 0, 0}, {2000, 1001, 0}, {2000, 1, -1}, {2000, 1, 21},
            {0, 0, 0}, {100001, 1001, 21}, {1999, 0, -1}, {-2000, 150, 10}};
        for (int[] row : wrong) {
            String call = "cut(" + row[0] + ", " + row[1] + ", " + row[2] + ")";
            check.fails(call, ARGUMENT, () -> x.cut(row[0], row[1], row[2]));
        }
    }
}
