/** Promises 19 to 23: fresco. */
public final class FrescoTest {
    private static final Class<IndexOutOfBoundsException> INDEX = IndexOutOfBoundsException.class;
    private static final Class<IllegalArgumentException> ARGUMENT = IllegalArgumentException.class;
    private static final Class<IllegalStateException> STATE = IllegalStateException.class;
    private static final long OUTSIDE = 0xFFFFL << 48;
    private static final Check check = new Check("FrescoTest");

    public static void main(String[] args) {
        promise19Window();
        promise20Patch();
        promise20PatchCovers();
        promise21Paint();
        promise21PaintInTime();
        promise22OfCell();
        promise23Over();
        promise23OverBySides();
        check.finish();
    }

    private static long cell(int row, int column) {
        return 1L << (8 * row + column);
    }

    private static void promise19Window() {
        Stuccohand x = new Stuccohand();
        for (int pigment = 0; pigment < 10; pigment++) {
            check.due("window at first", 0, x.window(pigment, pigment % 4));
        }
        for (int pigment = 0; pigment < 10; pigment++) {
            check.due("window then", pigment % 4, x.window(pigment, 3 - pigment % 4));
        }
        for (int pigment = 0; pigment < 10; pigment++) {
            check.due("window at last", 3 - pigment % 4, x.window(pigment, 0));
        }
        check.fails("window(10, 4)", INDEX, () -> x.window(10, 4));
        check.fails("window(-1, 0)", INDEX, () -> x.window(-1, 0));
        check.fails("window(0, 4)", ARGUMENT, () -> x.window(0, 4));
        check.fails("window(0, -1)", ARGUMENT, () -> x.window(0, -1));
    }

    private static void promise20Patch() {
        Stuccohand x = new Stuccohand();
        check.fails("patch(0)", ARGUMENT, () -> x.patch(0L));
        check.fails("patch of bits that do not matter", ARGUMENT, () -> x.patch(OUTSIDE));
        for (int i = 0; i < 30; i++) {
            check.due("patch " + i, i, x.patch(1L << i | OUTSIDE));
        }
        check.fails("a thirty-first patch", STATE, () -> x.patch(1L));
        check.fails("a thirty-first patch without cells", ARGUMENT, () -> x.patch(0L));
        for (int i = 0; i < 48; i++) {
            check.due("cell " + i, i < 30 ? i : -1, x.ofCell(i, 0));
        }
    }

    private static void promise20PatchCovers() {
        Stuccohand x = new Stuccohand();
        x.patch(0b1111L);
        x.paint(0, 4, 0b1111L, false);
        x.patch(0b0110L);
        int[] patches = {0, 1, 1, 0};
        int[] pigments = {4, -1, -1, 4};
        for (int i = 0; i < 4; i++) {
            check.due("patch of cell " + i, patches[i], x.ofCell(i, 0));
            check.due("pigment of cell " + i, pigments[i], x.ofCell(i, 1));
        }
        check.due("what patch 0 still has", 2, x.paint(0, 5, -1L, false));
        check.due("a cell of patch 1 is not painted by patch 0", -1, x.ofCell(1, 1));
        x.pass(1);
        x.paint(1, 6, 0b0110L, true);
        x.patch(0b0010L);
        check.due("what was secco is gone", 0, x.ofCell(1, 2));
        check.due("what was painted is gone", -1, x.ofCell(1, 1));
        check.due("the rest stays", 6, x.ofCell(2, 1));
        check.due("the rest stays secco", 1, x.ofCell(2, 2));
    }

    private static void promise21Paint() {
        Stuccohand x = new Stuccohand();
        check.fails("no patch", INDEX, () -> x.paint(0, 0, 1L, false));
        x.patch(0b111L | 1L << 47);
        check.fails("patch -1", INDEX, () -> x.paint(-1, 0, 1L, false));
        check.fails("patch 1, secco", INDEX, () -> x.paint(1, 0, 1L, true));
        check.fails("pigment -1", INDEX, () -> x.paint(0, -1, 1L, false));
        check.fails("pigment 10, secco", INDEX, () -> x.paint(0, 10, 1L, true));
        check.due("pigment 0", 1, x.paint(0, 0, 1L, false));
        check.due("pigment 0, told", 0, x.ofCell(0, 1));
        check.due("all of it", 4, x.paint(0, 9, -1L, false));
        check.due("none of it", 0, x.paint(0, 8, 0b1000L, false));
        check.due("no cell at all", 0, x.paint(0, 8, 0L, false));
        check.due("bits that do not matter", 0, x.paint(0, 8, OUTSIDE, false));
        check.due("some of it", 2, x.paint(0, 7, 0b11011L, false));
        int[] pigments = {7, 7, 9, -1, -1};
        for (int i = 0; i < 5; i++) {
            check.due("pigment of cell " + i, pigments[i], x.ofCell(i, 1));
        }
        check.due("pigment of cell 47", 9, x.ofCell(47, 1));
        check.due("not secco", 0, x.ofCell(0, 2));
    }

    private static void promise21PaintInTime() {
        Stuccohand x = new Stuccohand();
        x.pass(5);
        x.patch(1L);
        for (int pigment = 0; pigment < 4; pigment++) {
            x.window(pigment, pigment);
        }
        for (int age = 0; age < 6; age++) {
            for (int pigment = 0; pigment < 4; pigment++) {
                int kind = pigment;
                boolean inTime = age <= pigment;
                String call = "pigment of window " + pigment + " at age " + age;
                if (inTime) {
                    check.fails(call + ", secco", STATE, () -> x.paint(0, kind, 1L, true));
                } else {
                    check.fails(call, STATE, () -> x.paint(0, kind, 1L, false));
                }
                check.due(call + ", as is due", 1, x.paint(0, kind, 1L, !inTime));
                check.due(call + ", told", inTime ? 0 : 1, x.ofCell(0, 2));
            }
            x.pass(1);
        }
        check.fails("too old by the window", STATE, () -> x.paint(0, 3, 0L, false));
        x.patch(2L);
        check.due("a young patch beside the old one", 1, x.paint(1, 3, 3L, false));
        x.pass(2);
        check.fails("window 0 at age 2", STATE, () -> x.paint(1, 9, 2L, false));
        x.window(9, 2);
        check.due("the window told since", 1, x.paint(1, 9, 2L, false));
    }

    private static void promise22OfCell() {
        Stuccohand x = new Stuccohand();
        check.fails("cell -1", INDEX, () -> x.ofCell(-1, 0));
        check.fails("cell 48, what 3", INDEX, () -> x.ofCell(48, 3));
        check.fails("what -1", ARGUMENT, () -> x.ofCell(0, -1));
        check.fails("what 3", ARGUMENT, () -> x.ofCell(47, 3));
        check.due("no patch", -1, x.ofCell(47, 0));
        check.due("no pigment", -1, x.ofCell(47, 1));
        check.due("not secco", 0, x.ofCell(47, 2));
        x.patch(1L << 47);
        check.due("patch", 0, x.ofCell(47, 0));
        check.due("a patch without pigment", -1, x.ofCell(47, 1));
        x.pass(1);
        x.paint(0, 0, 1L << 47, true);
        check.due("pigment 0", 0, x.ofCell(47, 1));
        check.due("secco", 1, x.ofCell(47, 2));
        x.window(1, 1);
        x.paint(0, 1, 1L << 47, false);
        check.due("the pigment painted last", 1, x.ofCell(47, 1));
        check.due("not secco any more", 0, x.ofCell(47, 2));
    }

    private static void promise23Over() {
        Stuccohand x = new Stuccohand();
        check.fails("over(0)", INDEX, () -> x.over(0));
        x.patch(cell(2, 2));
        check.fails("over(1)", INDEX, () -> x.over(1));
        check.fails("over(-1)", INDEX, () -> x.over(-1));
        check.due("alone", 0, x.over(0));
        x.patch(cell(2, 4));
        x.patch(cell(2, 3) | cell(3, 3));
        check.due("over both", 2, x.over(2));
        check.due("below", 0, x.over(0));
        x.patch(cell(4, 3));
        check.due("over one", 1, x.over(3));
        check.due("that one still over two", 2, x.over(2));
        x.patch(cell(2, 2));
        check.due("a patch without cells is met by none", 1, x.over(2));
        check.due("nor goes it over any", 0, x.over(0));
        check.due("the one that covers it goes over one", 1, x.over(4));
        x.patch(cell(3, 3));
        check.due("the rest of the patch", 1, x.over(2));
        check.due("over one laid on the same day", 2, x.over(5));
    }

    private static void promise23OverBySides() {
        for (int one = 0; one < 48; one++) {
            for (int other = 0; other < 48; other++) {
                Stuccohand x = new Stuccohand();
                x.patch(1L << one);
                x.patch(1L << other);
                int rows = Math.abs(one / 8 - other / 8);
                int columns = Math.abs(one % 8 - other % 8);
                check.due("cells " + other + " and " + one, rows + columns == 1 ? 1 : 0, x.over(1));
            }
        }
    }
}
