/** Promises 24 to 26: damp, ceilings, bills. */
public final class DampBillsTest {
    private static final Class<IndexOutOfBoundsException> INDEX = IndexOutOfBoundsException.class;
    private static final Class<IllegalArgumentException> ARGUMENT = IllegalArgumentException.class;
    private static final Check check = new Check("DampBillsTest");

    public static void main(String[] args) {
        promise24Tells();
        promise24TellsArguments();
        promise25Pins();
        promise26Bill();
        promise26BillArguments();
        check.finish();
    }

    private static void promise24Tells() {
        Stuccohand x = new Stuccohand();
        int[][] dues = {
            {50, 40, 40, 35, 30, 10, Stuccohand.RISING}, {50, 40, 40, 35, 30, 9, Stuccohand.UNCLEAR},
            {50, 40, 40, 35, 31, 10, Stuccohand.UNCLEAR}, {50, 50, 50, 50, 30, 99, Stuccohand.RISING},
            {50, 51, 40, 35, 30, 10, Stuccohand.UNCLEAR}, {50, 40, 41, 35, 30, 10, Stuccohand.UNCLEAR},
            {50, 40, 35, 36, 30, 10, Stuccohand.UNCLEAR}, {50, 40, 35, 20, 30, 10, Stuccohand.UNCLEAR},
            {99, 0, 0, 0, 0, 99, Stuccohand.RISING},
            {10, 20, 15, 10, 10, 50, Stuccohand.DRIVEN}, {10, 10, 20, 10, 10, 0, Stuccohand.DRIVEN},
            {10, 10, 10, 20, 10, 0, Stuccohand.DRIVEN}, {10, 20, 20, 20, 10, 0, Stuccohand.DRIVEN},
            {10, 19, 10, 10, 0, 0, Stuccohand.UNCLEAR}, {0, 19, 10, 10, 10, 0, Stuccohand.UNCLEAR},
            {11, 20, 10, 10, 0, 0, Stuccohand.UNCLEAR}, {40, 10, 30, 10, 10, 50, Stuccohand.UNCLEAR},
            {10, 10, 10, 10, 11, 0, Stuccohand.DEW}, {10, 10, 10, 11, 11, 0, Stuccohand.UNCLEAR},
            {11, 10, 10, 10, 11, 0, Stuccohand.UNCLEAR}, {0, 11, 0, 0, 11, 0, Stuccohand.UNCLEAR},
            {0, 0, 11, 0, 11, 0, Stuccohand.UNCLEAR}, {0, 0, 0, 0, 99, 99, Stuccohand.DEW},
            {30, 30, 30, 30, 30, 99, Stuccohand.UNCLEAR}, {0, 0, 0, 0, 0, 0, Stuccohand.UNCLEAR}};
        for (int[] due : dues) {
            int got = x.tells(due[0], due[1], due[2], due[3], due[4], due[5]);
            check.due("tells" + java.util.Arrays.toString(due), due[6], got);
        }
    }

    private static void promise24TellsArguments() {
        Stuccohand x = new Stuccohand();
        int[] wrong = {-1, 100, Integer.MIN_VALUE, Integer.MAX_VALUE};
        for (int place = 0; place < 6; place++) {
            for (int number : wrong) {
                int[] r = {0, 0, 0, 0, 0, 0};
                r[place] = number;
                check.fails("tells with " + number + " at " + place, ARGUMENT,
                        () -> x.tells(r[0], r[1], r[2], r[3], r[4], r[5]));
            }
        }
    }

    private static void promise25Pins() {
        Stuccohand x = new Stuccohand();
        check.due("none", 0, x.pins(0L));
        check.due("bits that do not matter", 0, x.pins(0xFFFFL << 48));
        check.due("all", 12, x.pins(-1L));
        check.due("bit 0 and such that do not matter", 1, x.pins(-281474976710655L));
        check.due("bit 47", 1, x.pins(1L << 47));
        for (int cells = 1; cells <= 8; cells++) {
            check.due("a row of " + cells, (cells + 3) / 4, x.pins((1L << cells) - 1));
        }
        check.due("the end of a row and the begin of the next", 2, x.pins(0b110000000L));
        check.due("by a corner", 2, x.pins(1L | 1L << 9));
        check.due("by a corner, the other way", 2, x.pins(2L | 1L << 8));
        check.due("a column of 6", 2, x.pins(0x010101010101L));
        check.due("the last column", 2, x.pins(0x808080808080L));
        check.due("two fields of 5", 4, x.pins(0b11111L | 0b11111L << 16));
        check.due("a chess board", 24, x.pins(0xAA55AA55AA55L));
        // rows 0, 2 and 4 whole, joined at turns on the right and on the left: one field of 26
        check.due("a snake", 7, x.pins(0xFFL | 1L << 15 | 0xFFL << 16 | 1L << 24 | 0xFFL << 32));
    }

    private static void promise26Bill() {
        Stuccohand x = new Stuccohand();
        x.wall(4, Stuccohand.STONE);
        x.wall(12, Stuccohand.STONE);
        for (int custom = 0; custom < 6; custom++) {
            check.due("bare, custom " + custom, 0, x.bill(0, custom, 100));
        }
        x.coat(0, 0, 0, 0, 2);
        x.coat(0, 1, 1, 0, 6);
        x.coat(0, 2, 2, 2, 3);
        x.pass(10);
        x.coat(0, 0, 0, 0, 1);
        x.coat(0, 1, 1, 0, 10);
        // strip 0: 2 and 1 mm, strip 1: 6 mm cracked and 10 mm cracked, strip 2: 3 mm, strip 3: none
        int[] dues = {5, 3, 22, 3, 25};
        for (int custom = 0; custom < 5; custom++) {
            check.due("custom " + custom, dues[custom] * 7, x.bill(0, custom, 7));
            check.due("custom " + custom + " of the other wall", 0, x.bill(1, custom, 7));
        }
        check.due("custom 5: 35 and 17", 52, x.bill(0, 5, 7));
        check.due("custom 5: 40 and 20", 60, x.bill(0, 5, 8));
        check.due("price 1", 5, x.bill(0, 0, 1));
        check.due("price 100", 2200, x.bill(0, 2, 100));
        x.strike(0, 1);
        check.due("struck off", 12, x.bill(0, 2, 1));
        x.coat(1, 0, 11, 2, 20);
        check.due("twelve strips", 24000, x.bill(1, 2, 100));
    }

    private static void promise26BillArguments() {
        Stuccohand x = new Stuccohand();
        check.fails("no wall", INDEX, () -> x.bill(0, 6, 0));
        x.wall(1, 0);
        check.fails("wall -1", INDEX, () -> x.bill(-1, 0, 1));
        check.fails("wall 1", INDEX, () -> x.bill(1, 0, 1));
        check.fails("custom -1", ARGUMENT, () -> x.bill(0, -1, 1));
        check.fails("custom 6", ARGUMENT, () -> x.bill(0, 6, 1));
        check.fails("price 0", ARGUMENT, () -> x.bill(0, 0, 0));
        check.fails("price 101", ARGUMENT, () -> x.bill(0, 0, 101));
    }
}
