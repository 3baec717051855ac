/**
 * What later calls than the 512th answer is free; but they end too, and throw what the face tells alone.
 * Also all limits at once, within 512 calls.
 */
public final class LongRunTest {
    private static final Check check = new Check("LongRunTest");

    public static void main(String[] args) {
        allLimitsAtOnce();
        manyMoreCalls();
        check.finish();
    }

    private static void allLimitsAtOnce() {
        Stuccohand x = new Stuccohand();
        for (int i = 0; i < 10; i++) {
            x.wall(12, Stuccohand.STONE);
            x.profile(100);
        }
        x.weather(50, 20);
        for (int coat = 0; coat < 6; coat++) {
            for (int wall = 0; wall < 10; wall++) {
                check.due("coat " + coat + " of wall " + wall, 0, x.coat(wall, 0, 11, 2, 20));
            }
            check.due("all dry", 120, x.pass(1));
        }
        check.due("the highest bill", 144000, x.bill(9, 2, 100));
        int calls = 20 + 1 + 66 + 1;
        for (; calls < 511; calls += 2) {
            check.due("struck", 5, x.strike(3, 7));
            check.due("laid again", 1, laidAgain(x));
        }
        check.due("found again from a long log", 6, x.coatsAnew(3, 7));
    }

    /** Beside older coats of the same plaster, so it has an edge; a wet one is struck off just as well. */
    private static int laidAgain(Stuccohand x) {
        return x.coat(3, 7, 7, 2, 20);
    }

    private static void manyMoreCalls() {
        Stuccohand x = new Stuccohand();
        x.wall(2, Stuccohand.LATH);
        x.patch(-1L);
        for (int i = 0; i < 5000; i++) {
            Object laid = Check.outcome(() -> x.coat(0, 0, 1, 0, 1));
            Object struck = Check.outcome(() -> x.strike(0, 0));
            Object other = Check.outcome(() -> x.strike(0, 1));
            boolean fine = isFine(laid) && isFine(struck) && isFine(other);
            check.due("turn " + i, true, fine && isFine(Check.outcome(() -> x.pass(1))));
        }
    }

    private static boolean isFine(Object answer) {
        return answer instanceof Integer || "throws.IllegalStateException".equals(answer);
    }
}
