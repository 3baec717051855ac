/** Each sentence of the document's Terms on mouldings, repeats, tiles, fresco, damp, ceilings and bills, at its edges. */
public final class TermsOfTheRestTest {
    private static final int LIME = 0, GAUGED = 1, GYPSUM = 2, CEMENT = 3;
    private static final Check check = new Check("TermsOfTheRestTest");

    public static void main(String[] args) {
        profiles();
        mitreAtAPlace();
        mitreOfBoth();
        repeats();
        steps();
        tilesInARun();
        bestOfBothWays();
        ground();
        patchCovers();
        paintedInTime();
        patchesMeet();
        orderReadBack();
        rising();
        driven();
        dew();
        ceilings();
        fields();
        pinsOfAField();
        bills();
        billsAtTheirEdges();
        check.finish();
    }

    private static void profiles() {
        check.says("Profiles are numbered from 0, up to 10, each of 1 to 8 depths, 1 to 100, from the top.");
        Stuccohand x = new Stuccohand();
        check.fails("none yet", Check.INDEX, () -> x.mitre(0, 0));
        for (int i = 0; i < 10; i++) {
            int next = i + 1;
            check.due("profile " + i, i, x.profile(i % 2 == 0 ? 1 : 100));
            check.answers("profile " + i + " is there", () -> x.mitre(next - 1, 0));
            check.fails("profile " + next + " is not", Check.INDEX, () -> x.mitre(next, 0));
        }
        check.fails("a profile more", Check.STATE, () -> x.profile(1));
        for (int count = 2; count <= 8; count++) {
            check.due("depth " + count, count, x.depth(0, count % 2 == 0 ? 100 : 1));
        }
        check.fails("a ninth depth", Check.STATE, () -> x.depth(0, 1));
        check.fails("a depth of 0", Check.ARGUMENT, () -> x.depth(1, 0));
        check.fails("a depth of 101", Check.ARGUMENT, () -> x.depth(1, 101));
        check.due("one depth is enough", 0.5f, x.mitre(1, 9));
        Stuccohand top = new Stuccohand();
        top.profile(1);
        top.depth(0, 3);
        top.profile(3);
        top.depth(1, 1);
        check.due("the first depth told is at the first place", 0.25f, top.mitre(0, 1));
    }

    private static float mitreOf(int first, int second) {
        Stuccohand x = new Stuccohand();
        x.profile(first);
        x.profile(second);
        return x.mitre(0, 1);
    }

    private static void mitreAtAPlace() {
        check.says("The mitre of two profiles at a place is, as a float, the depth of the first one there, divided by those"
                + " of both, together, each a float; a profile that has no such place has the depth of its last one.");
        for (int first = 1; first <= 100; first++) {
            for (int second = 1; second <= 100; second++) {
                float share = (float) first / ((float) first + (float) second);
                check.due("mitre of " + first + " and " + second, share, mitreOf(first, second));
            }
        }
        for (int places = 1; places <= 8; places++) {
            Stuccohand x = new Stuccohand();
            x.profile(50);
            x.profile(50);
            for (int i = 2; i <= places; i++) {
                x.depth(1, i < places ? 49 : 100);
            }
            check.due("the last of " + places + " beside the only one", places == 1 ? 0.5f : 50f / 150f, x.mitre(0, 1));
            check.due("the only one beside the last of " + places, places == 1 ? 0.5f : 100f / 150f, x.mitre(1, 0));
        }
        Stuccohand x = new Stuccohand();
        x.profile(99);
        x.depth(0, 10);
        x.profile(99);
        x.depth(1, 10);
        x.depth(1, 30);
        check.due("its last depth, not its first one, nor none", 0.25f, x.mitre(0, 1));
    }

    private static void mitreOfBoth() {
        check.says("The mitre of both is that where it is the farthest from 0.5, as a float, of several the first one.");
        int[][] rows = {
            {10, 10, 30, 10, 75}, {30, 10, 10, 30, 75}, {10, 30, 30, 10, 25}, {30, 10, 10, 10, 75}, {10, 10, 10, 30, 25},
            {10, 30, 10, 30, 25}, {20, 20, 20, 20, 50}, {40, 60, 30, 10, 75}, {10, 30, 60, 40, 25}};
        for (int[] row : rows) {
            Stuccohand x = new Stuccohand();
            x.profile(row[0]);
            x.profile(row[1]);
            x.depth(0, row[2]);
            x.depth(1, row[3]);
            check.due("places " + row[0] + "|" + row[1] + " and " + row[2] + "|" + row[3], row[4] / 100f, x.mitre(0, 1));
        }
        Stuccohand x = new Stuccohand();
        x.profile(1);
        x.profile(2);
        x.depth(0, 2);
        x.depth(1, 1);
        check.due("1/3 and then 2/3, which as a float is the farther one", 2f / 3f, x.mitre(0, 1));
        check.due("2/3 and then 1/3", 2f / 3f, x.mitre(1, 0));
        Stuccohand last = new Stuccohand();
        last.profile(50);
        for (int i = 2; i <= 8; i++) {
            last.depth(0, i == 8 ? 1 : 50);
        }
        last.profile(50);
        check.due("the farthest at the eighth place", 1f / 51f, last.mitre(0, 1));
    }

    private static void repeats() {
        check.says("A repeat of some length fits into a run so many times, at least once, that the run divided by that many"
                + " is, not rounded, nearest to it; of two the fewer times.");
        Stuccohand x = new Stuccohand();
        int[][] atLeastOnce = {{1, 1, 1}, {1, 2, 1}, {1, 100000, 1}, {99999, 100000, 1}, {100000, 100000, 1}};
        // rounded down or to the nearest whole number each of these would be another
        int[][] notRounded = {{7, 5, 2}, {11, 4, 3}, {7, 2, 4}, {8, 1, 8}, {10, 4, 3}, {5, 2, 3}, {3, 2, 2}, {99999, 2, 50000},
            {99999, 18, 5556}, {99998, 4, 25000}, {99995, 14, 7143}};
        int[][] fewerOfTwo = {{4, 3, 1}, {8, 6, 1}, {12, 5, 2}, {24, 10, 2}, {24, 7, 3}, {100000, 75000, 1}, {40, 9, 4},
            {99996, 41665, 2}};
        int[][] besideThem = {{5, 3, 2}, {3, 3, 1}, {13, 5, 3}, {11, 5, 2}, {25, 7, 4}, {23, 7, 3}, {100000, 74999, 2},
            {100000, 75001, 1}, {99997, 41665, 3}, {99995, 41665, 2}, {99996, 41664, 3}, {99996, 41666, 2}};
        for (int[][] rows : new int[][][] {atLeastOnce, notRounded, fewerOfTwo, besideThem}) {
            for (int[] row : rows) {
                check.due("fits(" + row[0] + ", " + row[1] + ")", row[2], x.fits(row[0], row[1]));
            }
        }
        for (int run = 1; run <= 60; run++) {
            for (int repeat = 1; repeat <= 60; repeat++) {
                check.due("fits(" + run + ", " + repeat + ")", nearest(run, repeat), x.fits(run, repeat));
            }
        }
    }

    /** By trying all: run / n - repeat, times n and the best one so far, so that nothing is rounded. */
    private static int nearest(int run, int repeat) {
        int best = 1;
        for (int n = 2; n <= run + 1; n++) {
            if (Math.abs(run - repeat * n) * best < Math.abs(run - repeat * best) * n) {
                best = n;
            }
        }
        return best;
    }

    private static void steps() {
        check.says("The step is that, as float.");
        Stuccohand x = new Stuccohand();
        check.due("a step that is longer than the repeat", 100f / 3f, x.step(100, 30));
        check.due("a step that is shorter", 22.5f, x.step(45, 30));
        check.due("of two the longer one", 4f, x.step(4, 3));
        check.due("the repeat longer than the run", 1f, x.step(1, 100000));
        check.due("the longest one", 100000f, x.step(100000, 100000));
        check.due("the shortest one", 1f, x.step(100000, 1));
        check.due("not by a rounded part", 99999f / 50000f, x.step(99999, 2));
        check.due("sevenths", 100000f / 7f, x.step(100000, 14000));
    }

    private static void tilesInARun() {
        check.says("Tiles of a width, with joints, lie in a run: they begin with a tile in the middle, or with a joint; each"
                + " end is half of what the run is above that, rounded down; there joints and tiles follow one another, from"
                + " the middle on, and a tile for which not all is left is cut to what is left.");
        Stuccohand x = new Stuccohand();
        // the tile in the middle gives the wider cut: 115 beside 35, and up to the last one that is a cut
        int[][] byTile = {{2000, 150, 10, 115}, {2001, 150, 10, 115}, {2002, 150, 10, 116}, {2068, 150, 10, 149},
            {2069, 150, 10, 149}, {2070, 150, 10, 0}, {2071, 150, 10, 0}};
        // the joint in the middle gives the wider cut
        int[][] byJoint = {{2160, 150, 10, 115}, {2161, 150, 10, 115}, {2162, 150, 10, 116}, {2228, 150, 10, 149},
            {2229, 150, 10, 149}, {2230, 150, 10, 0}, {2231, 150, 10, 0}, {2000, 1000, 20, 990}};
        int[][] atTheEnds = {{2000, 1, 0, 0}, {2000, 1, 20, 0}, {2000, 1000, 0, 0}, {2001, 1000, 0, 0}, {2000, 999, 0, 500},
            {100000, 1000, 20, 520}, {99999, 1000, 20, 519}, {100000, 1, 0, 0}, {100000, 999, 0, 549}};
        for (int[][] rows : new int[][][] {byTile, byJoint, atTheEnds}) {
            for (int[] row : rows) {
                check.due("cut(" + row[0] + ", " + row[1] + ", " + row[2] + ")", row[3], x.cut(row[0], row[1], row[2]));
            }
        }
    }

    private static void bestOfBothWays() {
        check.says("Of both that is taken by which no tile is cut, or by which the cut is wider.");
        Stuccohand x = new Stuccohand();
        for (int run = 2000; run < 2700; run++) {
            int one = walked((run - 150) / 2, 150, 10, false);
            int other = walked((run - 10) / 2, 150, 10, true);
            int due = one == 0 || other == 0 ? 0 : one > other ? one : other;
            check.due("cut(" + run + ", 150, 10) of " + one + " and " + other, due, x.cut(run, 150, 10));
        }
        check.due("both cut alike", 120, x.cut(2010, 150, 10));
        check.due("no cut by the tile, 75 by the joint", 0, x.cut(150 + 12 * 160, 150, 10));
        check.due("no cut by the joint, 65 by the tile", 0, x.cut(10 + 12 * 160 + 300, 150, 10));
        check.due("the end is used up just behind a joint", 0, x.cut(150 + 12 * 160 + 20, 150, 10));
        check.due("1 is left behind that joint, 81 by the other way", 81, x.cut(150 + 12 * 160 + 22, 150, 10));
    }

    /** Joint by joint and tile by tile; 0 if no tile is cut. */
    private static int walked(int left, int tile, int joint, boolean tileNext) {
        boolean isTile = tileNext;
        for (int end = left; end > 0; isTile = !isTile) {
            if (isTile && end < tile) {
                return end;
            }
            end -= isTile ? tile : joint;
        }
        return 0;
    }

    private static void ground() {
        check.says("A ground has 6 rows of 8 cells, the cell 8 times its row and its column.");
        for (int row = 0; row < 6; row++) {
            for (int column = 0; column < 8; column++) {
                Stuccohand x = new Stuccohand();
                int cell = 8 * row + column;
                x.patch(1L << cell);
                check.due("cell " + cell, 0, x.ofCell(cell, 0));
                x.patch(~(1L << cell));
                int beside = (row > 0 ? 1 : 0) + (row < 5 ? 1 : 0) + (column > 0 ? 1 : 0) + (column < 7 ? 1 : 0);
                check.due("it meets the rest", 1, x.over(1));
                check.due("cells beside it", beside, countBeside(cell));
            }
        }
        Stuccohand x = new Stuccohand();
        check.fails("cell -1", Check.INDEX, () -> x.ofCell(-1, 0));
        check.fails("cell 48", Check.INDEX, () -> x.ofCell(48, 0));
    }

    private static int countBeside(int cell) {
        int count = 0;
        for (int other = 0; other < 48; other++) {
            Stuccohand x = new Stuccohand();
            x.patch(1L << cell);
            x.patch(1L << other);
            count += x.over(1);
        }
        return count;
    }

    private static void patchCovers() {
        check.says("A patch of cells, a set in the bits of a long, is laid today; what it covers of older patches is gone,"
                + " with what was painted there.");
        Stuccohand x = new Stuccohand();
        x.patch(0xFL);
        x.paint(0, 1, 0xFL, false);
        x.pass(1);
        x.patch(0x3CL);
        check.due("what is painted secco of the older one", 2, x.paint(0, 2, -1L, true));
        check.due("the new one is of today", 4, x.paint(1, 3, -1L, false));
        x.patch(0x18L);
        int[] patches = {0, 0, 1, 2, 2, 1, -1};
        int[] pigments = {2, 2, 3, -1, -1, 3, -1};
        int[] seccos = {1, 1, 0, 0, 0, 0, 0};
        for (int cell = 0; cell < 7; cell++) {
            check.due("the patch of cell " + cell, patches[cell], x.ofCell(cell, 0));
            check.due("the pigment of cell " + cell, pigments[cell], x.ofCell(cell, 1));
            check.due("secco of cell " + cell, seccos[cell], x.ofCell(cell, 2));
        }
        x.patch(-1L);
        for (int cell = 0; cell < 48; cell++) {
            check.due("all covered: the patch", 3, x.ofCell(cell, 0));
            check.due("all covered: the pigment", -1, x.ofCell(cell, 1));
            check.due("all covered: secco", 0, x.ofCell(cell, 2));
        }
        check.due("nothing of the oldest one is left to paint", 0, x.paint(0, 2, -1L, true));
        check.due("nor of the last but one", 0, x.paint(2, 2, -1L, false));
    }

    private static void paintedInTime() {
        check.says("It is painted with a pigment, 0 to 9, in cells of it, while it is at most the window of the pigment old,"
                + " in days, 0 at first; or secco, when it is older.");
        for (int pigment = 0; pigment < 10; pigment++) {
            for (int window = 0; window <= 3; window++) {
                Stuccohand x = new Stuccohand();
                int kind = pigment;
                x.pass(3);
                if (window > 0) {
                    x.window(pigment, window);
                }
                x.patch(1L);
                for (int age = 0; age < window; age++) {
                    check.due("younger than the window", 1, x.paint(0, pigment, 1L, false));
                    x.pass(1);
                }
                check.due("as old as the window", 1, x.paint(0, pigment, 1L, false));
                check.fails("as old as the window, secco", Check.STATE, () -> x.paint(0, kind, 1L, true));
                x.pass(1);
                check.due("a day older, secco", 1, x.paint(0, pigment, 1L, true));
                check.fails("a day older", Check.STATE, () -> x.paint(0, kind, 1L, false));
                check.due("painted secco", 1, x.ofCell(0, 2));
            }
        }
        Stuccohand x = new Stuccohand();
        x.patch(6L);
        check.fails("pigment -1", Check.INDEX, () -> x.paint(0, -1, 6L, false));
        check.fails("pigment 10", Check.INDEX, () -> x.paint(0, 10, 6L, false));
        check.due("cells of it alone", 2, x.paint(0, 0, 15L, false));
        check.due("a cell beside it", -1, x.ofCell(3, 1));
        for (int i = 0; i < 20; i++) {
            x.pass(100);
        }
        check.due("two thousand days old", 2, x.paint(0, 0, -1L, true));
    }

    private static void patchesMeet() {
        check.says("Two patches meet, if a cell of one is beside a cell of the other, by a side.");
        for (int one = 0; one < 48; one++) {
            for (int other = 0; other < 48; other++) {
                Stuccohand x = new Stuccohand();
                x.patch(1L << one);
                x.patch(1L << other);
                int away = Math.abs(one / 8 - other / 8) + Math.abs(one % 8 - other % 8);
                check.due("cells " + one + " and " + other, away == 1 ? 1 : 0, x.over(1));
            }
        }
        Stuccohand x = new Stuccohand();
        x.patch(0x8080808080L);
        x.patch(0x010101010100L);
        check.due("the last column and the first one, a row on", 0, x.over(1));
        x.patch(0xFFL << 40 & ~0x010000000000L);
        check.due("the last row meets both", 2, x.over(2));
    }

    private static void orderReadBack() {
        check.says("The order is read back so: of patches that meet the one that was laid later goes over the other.");
        Stuccohand x = new Stuccohand();
        for (int patch = 0; patch < 8; patch++) {
            x.patch(1L << patch);
            check.due("patch " + patch + " goes over the one ahead of it", patch == 0 ? 0 : 1, x.over(patch));
            if (patch % 3 == 2) {
                x.pass(1);
            }
        }
        check.due("a patch between two goes over the older one alone", 1, x.over(3));
        check.due("the oldest one goes over none", 0, x.over(0));
        x.patch(1L << 4);
        check.due("laid later, it goes over both", 2, x.over(8));
        check.due("what it took the place of goes over none", 0, x.over(4));
        check.due("one behind it has it above", 0, x.over(5));
        check.due("one ahead of it as before", 1, x.over(3));
    }

    private static void tells(int due, int a, int b, int c, int d, int e, int salts) {
        Stuccohand x = new Stuccohand();
        check.due("tells " + a + " " + b + " " + c + " " + d + " " + e + ", salts " + salts, due, x.tells(a, b, c, d, e, salts));
    }

    private static void rising() {
        check.says("Damp is told apart by readings at five heights, 0 to 99, and salts, 0 to 99: RISING, if no reading is above"
                + " the one below it, and the lowest is 20 or more above the highest, and the salts are 10 or more; DRIVEN,"
                + " if the greatest is neither the lowest nor the highest one of the five places, and above both by 10 or"
                + " more; DEW, if the highest is the greatest, alone; else UNCLEAR.");
        tells(Stuccohand.RISING, 50, 45, 40, 35, 30, 10);
        tells(Stuccohand.UNCLEAR, 50, 45, 40, 35, 30, 9);
        tells(Stuccohand.RISING, 50, 45, 40, 35, 30, 99);
        tells(Stuccohand.UNCLEAR, 50, 45, 40, 35, 31, 99);
        tells(Stuccohand.RISING, 20, 0, 0, 0, 0, 10);
        tells(Stuccohand.UNCLEAR, 19, 0, 0, 0, 0, 10);
        tells(Stuccohand.RISING, 99, 99, 99, 99, 0, 10);
        tells(Stuccohand.RISING, 20, 20, 20, 20, 0, 10);
        tells(Stuccohand.UNCLEAR, 50, 51, 40, 35, 30, 99);
        tells(Stuccohand.UNCLEAR, 50, 40, 41, 35, 30, 99);
        tells(Stuccohand.UNCLEAR, 50, 45, 35, 36, 30, 99);
        tells(Stuccohand.UNCLEAR, 50, 45, 40, 29, 30, 99);
        tells(Stuccohand.UNCLEAR, 0, 0, 0, 0, 0, 0);
        tells(Stuccohand.UNCLEAR, 99, 99, 99, 99, 99, 99);
    }

    private static void driven() {
        for (int place = 1; place <= 3; place++) {
            int[] r = {10, 0, 0, 0, 10};
            r[place] = 20;
            tells(Stuccohand.DRIVEN, r[0], r[1], r[2], r[3], r[4], 0);
            tells(Stuccohand.DRIVEN, r[0], r[1], r[2], r[3], r[4], 99);
            tells(Stuccohand.UNCLEAR, 11, r[1], r[2], r[3], 10, 0);
            tells(Stuccohand.UNCLEAR, 10, r[1], r[2], r[3], 11, 0);
            tells(Stuccohand.UNCLEAR, 20, r[1], r[2], r[3], 10, 0);
            tells(Stuccohand.UNCLEAR, 10, r[1], r[2], r[3], 20, 0);
            tells(Stuccohand.UNCLEAR, 30, r[1], r[2], r[3], 10, 0);
            tells(Stuccohand.DEW, 10, r[1], r[2], r[3], 21, 0);
        }
        tells(Stuccohand.DRIVEN, 10, 20, 20, 20, 10, 0);
        tells(Stuccohand.DRIVEN, 0, 10, 0, 10, 0, 0);
        tells(Stuccohand.DRIVEN, 0, 0, 99, 0, 0, 99);
        tells(Stuccohand.DRIVEN, 89, 0, 99, 0, 89, 99);
        tells(Stuccohand.UNCLEAR, 90, 0, 99, 0, 89, 99);
        tells(Stuccohand.UNCLEAR, 0, 9, 0, 9, 0, 0);
    }

    private static void dew() {
        tells(Stuccohand.DEW, 10, 10, 10, 10, 11, 0);
        tells(Stuccohand.UNCLEAR, 10, 10, 10, 10, 10, 0);
        tells(Stuccohand.UNCLEAR, 11, 10, 10, 10, 11, 0);
        tells(Stuccohand.UNCLEAR, 10, 11, 10, 10, 11, 0);
        tells(Stuccohand.UNCLEAR, 10, 10, 11, 10, 11, 0);
        tells(Stuccohand.UNCLEAR, 10, 10, 10, 11, 11, 0);
        tells(Stuccohand.DEW, 0, 0, 0, 0, 1, 99);
        tells(Stuccohand.DEW, 98, 98, 98, 98, 99, 99);
        tells(Stuccohand.DEW, 0, 0, 0, 0, 99, 0);
    }

    private static void ceilings() {
        check.says("A ceiling is 6 rows of 8 cells, likewise; sounded, some are loose.");
        Stuccohand x = new Stuccohand();
        check.due("none is loose", 0, x.pins(0L));
        check.due("all are loose", 12, x.pins((1L << 48) - 1));
        for (int cell = 0; cell < 64; cell++) {
            check.due("bit " + cell, cell < 48 ? 1 : 0, x.pins(1L << cell));
        }
    }

    private static void fields() {
        check.says("Loose cells that hang together by their sides are a field; a field needs a pin for each 4 of its cells,"
                + " or part of that.");
        Stuccohand x = new Stuccohand();
        for (int one = 0; one < 48; one++) {
            for (int other = one + 1; other < 48; other++) {
                int away = other / 8 - one / 8 + Math.abs(one % 8 - other % 8);
                check.due("cells " + one + " and " + other, away == 1 ? 1 : 2, x.pins(1L << one | 1L << other));
            }
        }
        check.due("the end of each row and the begin of the next", 2, x.pins(1L << 15 | 1L << 16));
        check.due("a chess board", 24, x.pins(0xAA55AA55AA55L));
        check.due("the other chess board", 24, x.pins(0x55AA55AA55AAL));
        check.due("a ring, and a cell within it", 3, x.pins(0x0705070000L | 1L << 25));
        check.due("a ring of 8 alone", 2, x.pins(0x07050700L));
        check.due("a ring of 8 around a cell that hangs on it", 3, x.pins(0x07070700L));
        // the rows 0, 2 and 4 whole, joined on the right and on the left, and a cell of row 5
        long path = 0xFFL | 1L << 15 | 0xFFL << 16 | 1L << 24 | 0xFFL << 32 | 1L << 47;
        check.due("a long winding path of 27", 7, x.pins(path));
        check.due("the same path, cut in 13 and 13", 8, x.pins(path & ~(1L << 19)));
    }

    private static void pinsOfAField() {
        Stuccohand x = new Stuccohand();
        long field = 0L;
        for (int count = 1; count <= 48; count++) {
            field |= 1L << count - 1;
            // row by row each cell hangs on the one above it, but the first of a row hangs on that alone
            check.due("a field of " + count, (count + 3) / 4, x.pins(field));
        }
        check.due("two fields of 5, not 10 cells", 4, x.pins(0x1FL | 0x1FL << 16));
        check.due("two fields of 2, not 4 cells", 2, x.pins(0x3L | 0x3L << 16));
    }

    /** Strip 0: 1 and 3 mm; strip 1: 20 mm, cracked; strip 2: 2 mm, and 6 mm that are cracked; strip 3 bare. */
    private static Stuccohand billed() {
        Stuccohand x = Check.withWall(4, Stuccohand.BRICK);
        x.wall(1, Stuccohand.STONE);
        x.coat(0, 0, 0, GAUGED, 1);
        x.coat(0, 1, 1, GAUGED, 20);
        x.coat(0, 2, 2, GYPSUM, 2);
        x.pass(20);
        x.coat(0, 0, 0, LIME, 3);
        x.coat(0, 2, 2, LIME, 6);
        return x;
    }

    private static void bills() {
        check.says("A bill for a wall by a custom, 0 to 5, is the strips, each with its coats, times the price, 1 to 100:"
                + " custom 0: each coat of a strip; 1: each strip with a coat once; 2: millimetres of all coats; 3: as 0, but"
                + " a cracked coat is not paid; 4: as 2, with each coat of less than 3 as 3; 5: the bill of 0 and its half,"
                + " rounded down, together.");
        int[] dues = {5, 3, 32, 3, 35};
        int[] prices = {1, 2, 7, 99, 100};
        Stuccohand x = billed();
        for (int price : prices) {
            for (int custom = 0; custom < 5; custom++) {
                check.due("custom " + custom + ", price " + price, dues[custom] * price, x.bill(0, custom, price));
            }
            check.due("custom 5, price " + price, 5 * price + 5 * price / 2, x.bill(0, 5, price));
            for (int custom = 0; custom < 6; custom++) {
                check.due("a bare wall, custom " + custom, 0, x.bill(1, custom, price));
            }
        }
        check.due("a half rounded down: 5 and 2", 7, x.bill(0, 5, 1));
        check.due("a half that is whole: 10 and 5", 15, x.bill(0, 5, 2));
        check.fails("custom -1", Check.ARGUMENT, () -> x.bill(0, -1, 1));
        check.fails("custom 6", Check.ARGUMENT, () -> x.bill(0, 6, 1));
        check.fails("price 0", Check.ARGUMENT, () -> x.bill(0, 0, 0));
        check.fails("price 101", Check.ARGUMENT, () -> x.bill(0, 0, 101));
    }

    private static void billsAtTheirEdges() {
        for (int thick = 1; thick <= 20; thick++) {
            Stuccohand x = Check.withWall(1, Stuccohand.BRICK);
            x.coat(0, 0, 0, GYPSUM, thick);
            check.due("custom 2, mm " + thick, thick, x.bill(0, 2, 1));
            check.due("custom 4, mm " + thick, thick < 3 ? 3 : thick, x.bill(0, 4, 1));
        }
        Stuccohand one = Check.withWall(1, Stuccohand.STONE);
        one.coat(0, 0, 0, CEMENT, 1);
        check.due("one coat and its half", 1, one.bill(0, 5, 1));
        check.due("one coat that is whole", 1, one.bill(0, 3, 1));
        one.weather(30, 20);
        one.pass(1);
        check.due("one coat, cracked since", 0, one.bill(0, 3, 100));
        one.strike(0, 0);
        for (int custom = 0; custom < 6; custom++) {
            check.due("struck off, custom " + custom, 0, one.bill(0, custom, 100));
        }
        Stuccohand most = Check.withWall(12, Stuccohand.STONE);
        most.weather(50, 20);
        for (int i = 0; i < 6; i++) {
            most.coat(0, 0, 11, GYPSUM, 20);
            most.pass(1);
        }
        int[] dues = {72, 12, 1440, 72, 1440, 108};
        for (int custom = 0; custom < 6; custom++) {
            check.due("all that there may be, custom " + custom, dues[custom] * 100, most.bill(0, custom, 100));
        }
    }
}
