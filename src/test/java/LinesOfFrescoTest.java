/** Each line of the promises 19 to 23, on what an argument may be, what is returned and what is thrown, at its edges. */
public final class LinesOfFrescoTest {
    private static final Class<IndexOutOfBoundsException> INDEX = Check.INDEX;
    private static final Class<IllegalArgumentException> ARGUMENT = Check.ARGUMENT;
    private static final Class<IllegalStateException> STATE = Check.STATE;
    private static final long ALL = (1L << 48) - 1;
    private static final long OTHERS = ~ALL;
    private static final Check check = new Check("LinesOfFrescoTest");

    public static void main(String[] args) {
        window();
        patchCells();
        patchReturns();
        paintArguments();
        paintReturns();
        paintThrows();
        paintInTime();
        ofCell();
        ofCellNumbers();
        over();
        check.finish();
    }

    private static void window() {
        check.says(19, "`pigment`: 0 to 9");
        check.range("pigment", 0, 9, INDEX, n -> new Stuccohand().window(n, 0));
        check.says(19, "`days`: 0 to 3");
        check.range("days", 0, 3, ARGUMENT, n -> new Stuccohand().window(9, n));
        check.says(19, "Returns the one before.");
        Stuccohand x = new Stuccohand();
        for (int pigment = 0; pigment < 10; pigment++) {
            check.due("at first", 0, x.window(pigment, 3));
            check.due("at most", 3, x.window(pigment, pigment % 3));
            check.due("the same again", pigment % 3, x.window(pigment, pigment % 3));
        }
        for (int pigment = 0; pigment < 10; pigment++) {
            check.due("each pigment has its own", pigment % 3, x.window(pigment, 0));
        }
        check.says(19, "Throws `IndexOutOfBoundsException` if there is no such pigment");
        check.fails("pigment -1", INDEX, () -> x.window(-1, 0));
        check.fails("pigment 10", INDEX, () -> x.window(10, 3));
        check.fails("pigment 10, 4 days", INDEX, () -> x.window(10, 4));
        check.fails("pigment -1, -1 days", INDEX, () -> x.window(-1, -1));
        check.says(19, "Throws `IllegalArgumentException` if days is out of range");
        x.window(5, 2);
        check.fails("4 days", ARGUMENT, () -> x.window(5, 4));
        check.fails("-1 days", ARGUMENT, () -> x.window(5, -1));
        check.due("neither was set", 2, x.window(5, 0));
    }

    private static void patchCells() {
        check.says(20, "`cells`: the bits 0 to 47, some of them; others do not matter");
        for (int bit = 0; bit < 64; bit++) {
            Stuccohand x = new Stuccohand();
            long cells = 1L << bit;
            if (bit < 48) {
                check.due("bit " + bit, 0, x.patch(cells));
                check.due("its cell", 0, x.ofCell(bit, 0));
            } else {
                check.fails("bit " + bit, ARGUMENT, () -> x.patch(cells));
            }
        }
        Stuccohand x = new Stuccohand();
        check.due("one cell and all others", 0, x.patch(OTHERS | 1L << 20));
        for (int cell = 0; cell < 48; cell++) {
            check.due("cell " + cell, cell == 20 ? 0 : -1, x.ofCell(cell, 0));
        }
        check.due("all cells", 1, x.patch(ALL));
        check.due("all bits", 2, x.patch(-1L));
        for (int cell = 0; cell < 48; cell++) {
            check.due("cell " + cell + " of all", 2, x.ofCell(cell, 0));
        }
        check.says(20, "Throws `IllegalArgumentException` if cells has none of the 48");
        Stuccohand y = new Stuccohand();
        check.fails("none", ARGUMENT, () -> y.patch(0L));
        check.fails("all but the 48", ARGUMENT, () -> y.patch(OTHERS));
        check.fails("the first bit that does not matter", ARGUMENT, () -> y.patch(1L << 48));
        check.fails("the last bit", ARGUMENT, () -> y.patch(Long.MIN_VALUE));
        check.due("refused ones take no number", 0, y.patch(1L << 47));
    }

    private static void patchReturns() {
        check.says(20, "Returns its number.");
        Stuccohand x = new Stuccohand();
        for (int i = 0; i < 30; i++) {
            check.due("patch " + i, i, x.patch(1L << i));
        }
        check.says(20, "Throws `IllegalStateException` if there are 30");
        check.fails("a patch more, on a free cell", STATE, () -> x.patch(1L << 40));
        check.fails("a patch more, on all", STATE, () -> x.patch(-1L));
        check.fails("a patch more, without cells", ARGUMENT, () -> x.patch(0L));
        check.due("cell 40 is free", -1, x.ofCell(40, 0));
        check.due("cell 29 is of the last one", 29, x.ofCell(29, 0));
        check.fails("there is no patch 30", INDEX, () -> x.over(30));
        Stuccohand y = new Stuccohand();
        for (int i = 0; i < 30; i++) {
            y.patch(1L);
        }
        check.fails("also if 29 of the 30 are covered", STATE, () -> y.patch(2L));
        check.due("the thirtieth one is on top", 29, y.ofCell(0, 0));
    }

    private static Stuccohand withPatches(int count) {
        Stuccohand x = new Stuccohand();
        for (int i = 0; i < count; i++) {
            x.patch(1L << i);
        }
        return x;
    }

    private static void paintArguments() {
        check.says(21, "`patch`: a patch");
        check.fails("none yet", INDEX, () -> new Stuccohand().paint(0, 0, 1L, false));
        check.range("patch of 1", 0, 0, INDEX, n -> withPatches(1).paint(n, 0, 1L, false));
        check.range("patch of 30", 0, 29, INDEX, n -> withPatches(30).paint(n, 0, 1L, false));
        check.says(21, "`pigment`: 0 to 9");
        check.range("pigment", 0, 9, INDEX, n -> withPatches(1).paint(0, n, 1L, false));
        check.says(21, "`cells`: as told to patch()");
        for (int bit = 0; bit < 64; bit++) {
            Stuccohand x = new Stuccohand();
            x.patch(-1L);
            check.due("bit " + bit, bit < 48 ? 1 : 0, x.paint(0, 3, 1L << bit, false));
            for (int cell = 0; cell < 48; cell++) {
                check.due("cell " + cell + " by the bit " + bit, cell == bit ? 3 : -1, x.ofCell(cell, 1));
            }
        }
        check.says(21, "`secco`: whether it is painted secco");
        Stuccohand x = withPatches(2);
        x.pass(1);
        x.window(1, 1);
        check.due("secco", 1, x.paint(0, 0, 1L, true));
        check.due("not secco", 1, x.paint(1, 1, 2L, false));
        check.due("told secco", 1, x.ofCell(0, 2));
        check.due("told not secco", 0, x.ofCell(1, 2));
    }

    private static void paintReturns() {
        check.says(21, "Returns how many cells are painted: those of the set that the patch still has.");
        Stuccohand x = new Stuccohand();
        x.patch(ALL);
        check.due("all", 48, x.paint(0, 0, -1L, false));
        check.due("one", 1, x.paint(0, 1, 1L << 47, false));
        check.due("none of the 48", 0, x.paint(0, 2, OTHERS, false));
        check.due("none at all", 0, x.paint(0, 2, 0L, false));
        check.due("the rest stays", 0, x.ofCell(46, 1));
        x.patch(0xFFL << 40);
        check.due("all that it still has", 40, x.paint(0, 3, -1L, false));
        check.due("none that it has no more", 0, x.paint(0, 4, 0xFFL << 40, false));
        check.due("no cell of the other one", -1, x.ofCell(40, 1));
        check.due("its last cell, and the first one of the other", 1, x.paint(0, 5, 3L << 39, false));
        check.due("the other one", 8, x.paint(1, 6, -1L, false));
        check.due("painted already, painted again", 8, x.paint(1, 7, -1L, false));
        x.patch(-1L);
        check.due("a patch without cells", 0, x.paint(1, 8, -1L, false));
    }

    private static void paintThrows() {
        check.says(21, "Throws `IndexOutOfBoundsException` if there is no such patch or pigment");
        Stuccohand x = withPatches(2);
        check.fails("patch 2", INDEX, () -> x.paint(2, 0, 1L, false));
        check.fails("patch -1", INDEX, () -> x.paint(-1, 0, 1L, false));
        check.fails("patch 2, secco too early", INDEX, () -> x.paint(2, 0, 1L, true));
        check.fails("pigment 10", INDEX, () -> x.paint(0, 10, 1L, false));
        check.fails("pigment -1", INDEX, () -> x.paint(0, -1, 1L, false));
        check.fails("pigment 10, secco too early", INDEX, () -> x.paint(0, 10, 1L, true));
        x.pass(1);
        check.fails("pigment 10, too old", INDEX, () -> x.paint(0, 10, 1L, false));
        check.due("nothing is painted", -1, x.ofCell(0, 1));
    }

    private static void paintInTime() {
        check.says(21, "Throws `IllegalStateException` if it is not painted secco, and too old for it, or secco, and not too old");
        for (int window = 0; window <= 3; window++) {
            for (int age = 0; age <= 5; age++) {
                Stuccohand x = withPatches(1);
                x.window(4, window);
                if (age > 0) {
                    x.pass(age);
                }
                boolean old = age > window;
                String call = "window " + window + ", age " + age;
                check.fails(call + ", the wrong way", STATE, () -> x.paint(0, 4, 1L, !old));
                check.fails(call + ", the wrong way, no cells", STATE, () -> x.paint(0, 4, 0L, !old));
                check.due(call + ", nothing is painted", -1, x.ofCell(0, 1));
                check.due(call + ", the right way", 1, x.paint(0, 4, 1L, old));
                check.due(call + ", painted", 4, x.ofCell(0, 1));
            }
        }
        Stuccohand x = withPatches(1);
        x.pass(1);
        x.window(0, 1);
        check.fails("the window of another pigment", STATE, () -> x.paint(0, 1, 1L, false));
        check.due("that of the pigment", 1, x.paint(0, 0, 1L, false));
        x.window(0, 0);
        check.fails("a window that was made narrower", STATE, () -> x.paint(0, 0, 1L, false));
        x.patch(2L);
        check.due("each patch has its own age", 1, x.paint(1, 1, 2L, false));
    }

    private static void ofCell() {
        check.says(22, "`cell`: 0 to 47");
        check.range("cell", 0, 47, INDEX, n -> new Stuccohand().ofCell(n, 0));
        check.says(22, "Throws `IndexOutOfBoundsException` if there is no such cell");
        Stuccohand x = new Stuccohand();
        check.fails("cell 48", INDEX, () -> x.ofCell(48, 0));
        check.fails("cell 48, what 3", INDEX, () -> x.ofCell(48, 3));
        check.fails("cell -1, what -1", INDEX, () -> x.ofCell(-1, -1));
        check.fails("cell 64, the bit 0 again", INDEX, () -> x.ofCell(64, 0));
        check.says(22, "Throws `IllegalArgumentException` if what is out of range");
        check.range("what", 0, 2, ARGUMENT, n -> x.ofCell(47, n));
    }

    private static void ofCellNumbers() {
        check.says(22, "`what`: 0 the patch, NONE without; 1 the pigment that was painted last on it, NONE without;"
                + " 2 whether that was secco, 1 or 0");
        Stuccohand x = new Stuccohand();
        for (int cell = 0; cell < 48; cell++) {
            check.due("no patch", Stuccohand.NONE, x.ofCell(cell, 0));
            check.due("no pigment", Stuccohand.NONE, x.ofCell(cell, 1));
            check.due("not secco", 0, x.ofCell(cell, 2));
        }
        x.patch(1L << 47 | 1L);
        check.due("patch 0", 0, x.ofCell(47, 0));
        check.due("no pigment on it yet", Stuccohand.NONE, x.ofCell(47, 1));
        check.due("not secco yet", 0, x.ofCell(47, 2));
        x.paint(0, 0, 1L << 47, false);
        check.due("pigment 0", 0, x.ofCell(47, 1));
        check.due("no pigment on the other cell", Stuccohand.NONE, x.ofCell(0, 1));
        check.says(22, "Returns the number.");
        x.paint(0, 9, -1L, false);
        check.due("the last of two", 9, x.ofCell(47, 1));
        x.pass(1);
        x.paint(0, 8, 1L << 47, true);
        check.due("the last of three", 8, x.ofCell(47, 1));
        check.due("secco", 1, x.ofCell(47, 2));
        check.due("not secco on the other cell", 0, x.ofCell(0, 2));
        x.window(7, 3);
        x.paint(0, 7, 1L << 47, false);
        check.due("the last of four", 7, x.ofCell(47, 1));
        check.due("not secco any more", 0, x.ofCell(47, 2));
        x.paint(0, 8, 1L << 47, true);
        x.patch(1L << 47);
        check.due("a new patch", 1, x.ofCell(47, 0));
        check.due("without pigment", Stuccohand.NONE, x.ofCell(47, 1));
        check.due("and not secco", 0, x.ofCell(47, 2));
        check.due("the thirtieth patch", 29, withPatches(30).ofCell(29, 0));
    }

    private static void over() {
        check.says(23, "`patch`: a patch");
        check.fails("none yet", INDEX, () -> new Stuccohand().over(0));
        check.range("patch of 1", 0, 0, INDEX, n -> withPatches(1).over(n));
        check.range("patch of 30", 0, 29, INDEX, n -> withPatches(30).over(n));
        check.says(23, "Returns how many.");
        check.due("none", 0, withPatches(1).over(0));
        check.due("one", 1, withPatches(2).over(1));
        Stuccohand x = new Stuccohand();
        // every other cell of a chess board, and one patch on all others goes over all of them
        int count = 0;
        for (int cell = 0; cell < 48; cell++) {
            if ((cell / 8 + cell % 8) % 2 == 0 && count < 24) {
                x.patch(1L << cell);
                count++;
            }
        }
        x.patch(0x55AA55AA55AAL);
        check.due("24 patches", 24, x.over(24));
        check.due("each of them goes over none", 0, x.over(0) + x.over(12) + x.over(23));
        Stuccohand twice = new Stuccohand();
        twice.patch(0xF0FL);
        twice.patch(0xF0F0L);
        check.due("a patch that is met at more than one cell counts once", 1, twice.over(1));
        Stuccohand covered = withPatches(3);
        covered.patch(1L << 1);
        check.due("one that is covered is met by none", 0, covered.over(2));
        check.due("nor meets it any", 0, covered.over(1));
        check.due("the new one meets both", 2, covered.over(3));
        check.says(23, "Throws `IndexOutOfBoundsException` if there is no such patch");
        check.fails("patch 4", INDEX, () -> covered.over(4));
        check.fails("patch -1", INDEX, () -> covered.over(-1));
        check.answers("a patch without cells is a patch", () -> covered.over(1));
    }
}
