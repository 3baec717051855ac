/** Each line of the promises 24 to 26, on what an argument may be, what is returned and what is thrown, at its edges. */
public final class LinesOfDampBillsTest {
    private static final Class<IndexOutOfBoundsException> INDEX = Check.INDEX;
    private static final Class<IllegalArgumentException> ARGUMENT = Check.ARGUMENT;
    private static final int FAR_BELOW = Integer.MIN_VALUE, FAR_ABOVE = Integer.MAX_VALUE;
    private static final Check check = new Check("LinesOfDampBillsTest");

    public static void main(String[] args) {
        tellsArguments();
        tellsReturns();
        tellsThrows();
        pins();
        bill();
        billThrows();
        check.finish();
    }

    private static void tellsArguments() {
        Stuccohand x = new Stuccohand();
        check.says(24, "`a`: 0 to 99: the lowest reading");
        check.range("a", 0, 99, ARGUMENT, n -> x.tells(n, 0, 0, 0, 0, 0));
        check.due("the lowest one, salts and all", Stuccohand.RISING, x.tells(20, 0, 0, 0, 0, 10));
        check.says(24, "`b`: likewise");
        check.range("b", 0, 99, ARGUMENT, n -> x.tells(0, n, 0, 0, 0, 0));
        check.due("the second one", Stuccohand.DRIVEN, x.tells(0, 10, 0, 0, 0, 0));
        check.says(24, "`c`: likewise");
        check.range("c", 0, 99, ARGUMENT, n -> x.tells(0, 0, n, 0, 0, 0));
        check.due("the third one", Stuccohand.DRIVEN, x.tells(0, 0, 10, 0, 0, 0));
        check.says(24, "`d`: likewise");
        check.range("d", 0, 99, ARGUMENT, n -> x.tells(0, 0, 0, n, 0, 0));
        check.due("the fourth one", Stuccohand.DRIVEN, x.tells(0, 0, 0, 10, 0, 0));
        check.says(24, "`e`: the highest one");
        check.range("e", 0, 99, ARGUMENT, n -> x.tells(0, 0, 0, 0, n, 0));
        check.due("the fifth one", Stuccohand.DEW, x.tells(0, 0, 0, 0, 10, 0));
        check.says(24, "`salts`: 0 to 99");
        check.range("salts", 0, 99, ARGUMENT, n -> x.tells(0, 0, 0, 0, 0, n));
        check.due("salts of 9", Stuccohand.UNCLEAR, x.tells(20, 0, 0, 0, 0, 9));
    }

    private static void tellsReturns() {
        check.says(24, "Returns UNCLEAR to DEW.");
        Stuccohand x = new Stuccohand();
        int[] values = {0, 9, 10, 19, 20, 99};
        for (int a : values) {
            for (int b : values) {
                for (int c : values) {
                    for (int e : values) {
                        for (int salts = 9; salts <= 10; salts++) {
                            int due = told(new int[] {a, b, c, b, e}, salts);
                            check.due("tells " + a + " " + b + " " + c + " " + b + " " + e + " " + salts, due,
                                    x.tells(a, b, c, b, e, salts));
                        }
                    }
                }
            }
        }
    }

    /** Each case by the document's words, and one after the other. */
    private static int told(int[] r, int salts) {
        int greatest = 0;
        int times = 0;
        boolean rises = false;
        for (int i = 0; i < 5; i++) {
            times = r[i] > greatest ? 1 : r[i] == greatest ? times + 1 : times;
            greatest = Math.max(greatest, r[i]);
            rises |= i > 0 && r[i] > r[i - 1];
        }
        boolean rising = !rises && r[0] >= r[4] + 20 && salts >= 10;
        boolean driven = greatest >= r[0] + 10 && greatest >= r[4] + 10;
        boolean dew = r[4] == greatest && times == 1;
        return rising ? Stuccohand.RISING : driven ? Stuccohand.DRIVEN : dew ? Stuccohand.DEW : Stuccohand.UNCLEAR;
    }

    private static void tellsThrows() {
        check.says(24, "Throws `IllegalArgumentException` if a number is out of range");
        Stuccohand x = new Stuccohand();
        int[] wrong = {-1, 100, FAR_BELOW, FAR_ABOVE};
        for (int place = 0; place < 6; place++) {
            for (int number : wrong) {
                int[] r = {99, 50, 50, 50, 0, 99};
                r[place] = number;
                check.fails(number + " at " + place + " alone", ARGUMENT, () -> x.tells(r[0], r[1], r[2], r[3], r[4], r[5]));
            }
        }
        check.fails("all of them", ARGUMENT, () -> x.tells(100, 100, 100, 100, 100, 100));
    }

    private static void pins() {
        Stuccohand x = new Stuccohand();
        check.says(25, "`loose`: the bits 0 to 47; others do not matter");
        for (int bit = 0; bit < 64; bit++) {
            check.due("bit " + bit, bit < 48 ? 1 : 0, x.pins(1L << bit));
        }
        check.due("all others", 0, x.pins(-1L << 48));
        check.due("all others, and the bit 0", 1, x.pins(-1L << 48 | 1L));
        check.due("bit 48 is not below bit 40", 1, x.pins(0xFL << 40 | 1L << 48));
        check.says(25, "Returns how many.");
        check.due("none", 0, x.pins(0L));
        check.due("all", 12, x.pins(-1L));
        int[] dues = {1, 1, 1, 1, 2, 2, 2, 2};
        for (int row = 0; row < 6; row++) {
            for (int count = 1; count <= 8; count++) {
                long cells = (1L << count) - 1;
                check.due("the first " + count + " of row " + row, dues[count - 1], x.pins(cells << 8 * row));
                check.due("the last " + count + " of row " + row, dues[count - 1], x.pins(cells << 8 * row + 8 - count));
            }
        }
        check.due("the most pins: each other cell", 24, x.pins(0x55AA55AA55AAL));
        check.due("three rows apart: 3 times 2", 6, x.pins(0xFF00FF00FFL));
        check.due("the last of a row, the first of the next", 2, x.pins(1L << 7 | 1L << 8));
        check.due("the last row and the first one", 4, x.pins(0xFFL | 0xFFL << 40));
    }

    private static void bill() {
        check.says(26, "`wall`: a wall");
        check.fails("none yet", INDEX, () -> new Stuccohand().bill(0, 0, 1));
        Stuccohand x = new Stuccohand();
        for (int i = 0; i < 10; i++) {
            x.wall(1, Stuccohand.STONE);
        }
        check.range("wall", 0, 9, INDEX, n -> x.bill(n, 0, 1));
        check.says(26, "`custom`: 0 to 5");
        check.range("custom", 0, 5, ARGUMENT, n -> x.bill(0, n, 1));
        check.says(26, "`price`: 1 to 100");
        check.range("price", 1, 100, ARGUMENT, n -> x.bill(0, 0, n));
        check.says(26, "Returns the bill.");
        for (int custom = 0; custom < 6; custom++) {
            check.due("bare, custom " + custom, 0, x.bill(0, custom, 100));
        }
        x.coat(0, 0, 0, 0, 2);
        x.coat(9, 0, 0, 0, 20);
        int[] ofOne = {100, 100, 200, 100, 300, 150};
        int[] ofCracked = {100, 100, 2000, 0, 2000, 150};
        for (int custom = 0; custom < 6; custom++) {
            check.due("a coat of 2 mm, custom " + custom, ofOne[custom], x.bill(0, custom, 100));
            check.due("a cracked one of 20 mm, custom " + custom, ofCracked[custom], x.bill(9, custom, 100));
            check.due("bare, custom " + custom, 0, x.bill(5, custom, 100));
        }
        check.due("one and its half, rounded down", 1, x.bill(0, 5, 1));
        check.due("99 and 49", 148, x.bill(0, 5, 99));
        x.pass(100);
        check.due("asked again, when dry", 300, x.bill(0, 4, 100));
    }

    private static void billThrows() {
        check.says(26, "Throws `IndexOutOfBoundsException` if there is no such wall");
        Stuccohand x = Check.withWall(1, 0);
        check.fails("wall 1", INDEX, () -> x.bill(1, 0, 1));
        check.fails("wall 1, custom 6, price 0", INDEX, () -> x.bill(1, 6, 0));
        check.fails("wall -1, price 101", INDEX, () -> x.bill(-1, 0, 101));
        check.says(26, "Throws `IllegalArgumentException` if custom or price is out of range");
        check.fails("custom -1 alone", ARGUMENT, () -> x.bill(0, -1, 1));
        check.fails("custom 6 alone", ARGUMENT, () -> x.bill(0, 6, 100));
        check.fails("price 0 alone", ARGUMENT, () -> x.bill(0, 0, 0));
        check.fails("price 101 alone", ARGUMENT, () -> x.bill(0, 5, 101));
        check.fails("both", ARGUMENT, () -> x.bill(0, 6, 101));
    }
}
