import java.util.Arrays;

/**
 * Runs of 512 calls, drawn by a fixed rule, of the program and of PlainModel side by side: each answer,
 * and each exception by its class. A call that throws must change nothing in either, or later rows differ.
 */
public final class ModelTest {
    private static final int RUNS = 3000;
    private static final int CALLS = 512;
    private static final Check check = new Check("ModelTest");

    private final long[] seed;
    private final Stuccohand x = new Stuccohand();
    private final PlainModel model = new PlainModel();
    private final int leaning;

    private ModelTest(int run) {
        seed = new long[] {run * 7919L + 17};
        leaning = run % 4;
    }

    public static void main(String[] args) {
        for (int run = 0; run < RUNS; run++) {
            new ModelTest(run).play(run);
        }
        check.finish();
    }

    private int below(int bound) {
        seed[0] = seed[0] * 6364136223846793005L + 1442695040888963407L;
        return (int) ((seed[0] >>> 33) % bound);
    }

    /** Mostly from least to most, seldom just outside or far outside. */
    private int number(int least, int most) {
        int kind = below(60);
        if (kind == 0) {
            int[] outside = {least - 1, most + 1, Integer.MIN_VALUE, Integer.MAX_VALUE, -least - most - 1};
            return outside[below(outside.length)];
        }
        return kind == 1 ? least : kind == 2 ? most : least + below(most - least + 1);
    }

    private long cells() {
        long all = 0;
        int parts = 1 + below(3);
        for (int i = 0; i < parts; i++) {
            all |= (below(2) == 0 ? 3L : 0x701L << below(2)) << below(48);
        }
        int kind = below(20);
        return kind == 0 ? -1L : kind == 1 ? all & (long) below(1 << 30) << 20 : kind == 2 ? all << 40 : all;
    }

    private void play(int run) {
        int walls = 1 + below(3);
        for (int call = 0; call < CALLS; call++) {
            int method = call < walls ? 0 : draw();
            int[] a = arguments(method);
            long cells = cells();
            boolean secco = below(3) == 0;
            Object want = Check.outcome(() -> ofModel(method, a, cells, secco));
            if (String.valueOf(want).startsWith("throws.")) {
                want = String.valueOf(want).replace(" of the library", "");
            }
            Object got = Check.outcome(() -> ofProgram(method, a, cells, secco));
            check.due("run " + run + ", call " + call + ": method " + method + Arrays.toString(a)
                    + " cells " + cells + " " + secco, want, got);
        }
    }

    /** Walls, fresco or all methods come up more often, as the run leans. */
    private int draw() {
        int kind = below(10);
        if (leaning == 0 && kind < 8 || leaning == 1 && kind < 5) {
            int[] ofWalls = {4, 4, 4, 4, 7, 7, 5, 6, 3, 8, 9, 10, 1, 2, 24};
            return ofWalls[below(ofWalls.length)];
        }
        if (leaning == 2 && kind < 8) {
            int[] ofFresco = {17, 18, 19, 19, 20, 20, 21, 7};
            return ofFresco[below(ofFresco.length)];
        }
        return below(25);
    }

    private int[] arguments(int method) {
        int wall = number(0, below(3));
        int strip = number(0, below(8) == 0 ? 11 : 3);
        int to = below(3) == 0 ? number(0, 3) : below(2) == 0 ? strip : Math.min(strip, 10) + 1;
        int coat = number(0, below(6));
        int run = below(3) == 0 ? number(1, 100000) : number(1, 300);
        switch (method) {
            case 0: return new int[] {below(3) == 0 ? number(1, 12) : 4, number(0, 2)};
            case 1: return new int[] {number(0, 50), number(0, 20)};
            case 2: return new int[] {wall, number(0, 30)};
            case 3: return new int[] {wall, strip};
            case 4: return new int[] {wall, strip, to, below(3) == 0 ? number(0, 3) : number(0, 1),
                below(2) == 0 ? number(1, 20) : number(1, 5)};
            case 5: return new int[] {wall, strip, to};
            case 6: return new int[] {wall, strip};
            case 7: return new int[] {below(12) == 0 ? number(1, 100) : leaning == 2 ? 1 : number(1, 5)};
            case 8: return new int[] {wall, strip, coat, number(0, 5)};
            case 9: return new int[] {wall, strip};
            case 10: return new int[] {wall, strip, coat, number(0, 24)};
            case 11: return new int[] {number(1, 100)};
            case 12: return new int[] {number(0, 5), number(1, 100)};
            case 13: return new int[] {number(0, 5), number(0, 5)};
            case 14: case 15: return new int[] {run, below(3) == 0 ? number(1, 100000) : number(1, 30)};
            case 16: return new int[] {number(2000, below(2) == 0 ? 3000 : 100000),
                below(2) == 0 ? number(1, 1000) : number(1, 40), number(0, 20)};
            case 17: return new int[] {number(0, 9), number(0, 3)};
            case 18: return new int[0];
            case 19: return new int[] {number(0, below(30)), number(0, 9)};
            case 20: return new int[] {number(0, 47), number(0, 2)};
            case 21: return new int[] {number(0, 29)};
            case 22: return readings();
            case 23: return new int[0];
            default: return new int[] {wall, number(0, 5), number(1, 100)};
        }
    }

    private int[] readings() {
        int[] r = new int[6];
        for (int i = 0; i < 6; i++) {
            r[i] = number(0, below(2) == 0 ? 99 : 30);
        }
        if (below(3) == 0) {
            Arrays.sort(r, 0, 5);
            for (int i = 0; i < 2; i++) {
                int kept = r[i];
                r[i] = r[4 - i];
                r[4 - i] = kept;
            }
        }
        return r;
    }

    private Object ofModel(int method, int[] a, long cells, boolean secco) {
        switch (method) {
            case 0: return model.wall(a[0], a[1]);
            case 1: return model.weather(a[0], a[1]);
            case 2: return model.damp(a[0], a[1]);
            case 3: return model.joint(a[0], a[1]);
            case 4: return model.coat(a[0], a[1], a[2], a[3], a[4]);
            case 5: return model.scratch(a[0], a[1], a[2]);
            case 6: return model.strike(a[0], a[1]);
            case 7: return model.pass(a[0]);
            case 8: return model.ofCoat(a[0], a[1], a[2], a[3]);
            case 9: return model.coatsAnew(a[0], a[1]);
            case 10: return model.text(a[0], a[1], a[2], a[3]);
            case 11: return model.profile(a[0]);
            case 12: return model.depth(a[0], a[1]);
            case 13: return model.mitre(a[0], a[1]);
            case 14: return model.fits(a[0], a[1]);
            case 15: return model.step(a[0], a[1]);
            case 16: return model.cut(a[0], a[1], a[2]);
            case 17: return model.window(a[0], a[1]);
            case 18: return model.patch(cells);
            case 19: return model.paint(a[0], a[1], cells, secco);
            case 20: return model.ofCell(a[0], a[1]);
            case 21: return model.over(a[0]);
            case 22: return model.tells(a[0], a[1], a[2], a[3], a[4], a[5]);
            case 23: return model.pins(cells);
            default: return model.bill(a[0], a[1], a[2]);
        }
    }

    private Object ofProgram(int method, int[] a, long cells, boolean secco) {
        switch (method) {
            case 0: return x.wall(a[0], a[1]);
            case 1:
                x.weather(a[0], a[1]);
                return 0;
            case 2: return x.damp(a[0], a[1]);
            case 3: return x.joint(a[0], a[1]);
            case 4: return x.coat(a[0], a[1], a[2], a[3], a[4]);
            case 5: return x.scratch(a[0], a[1], a[2]);
            case 6: return x.strike(a[0], a[1]);
            case 7: return x.pass(a[0]);
            case 8: return x.ofCoat(a[0], a[1], a[2], a[3]);
            case 9: return x.coatsAnew(a[0], a[1]);
            case 10: return x.text(a[0], a[1], a[2], a[3]);
            case 11: return x.profile(a[0]);
            case 12: return x.depth(a[0], a[1]);
            case 13: return x.mitre(a[0], a[1]);
            case 14: return x.fits(a[0], a[1]);
            case 15: return x.step(a[0], a[1]);
            case 16: return x.cut(a[0], a[1], a[2]);
            case 17: return x.window(a[0], a[1]);
            case 18: return x.patch(cells);
            case 19: return x.paint(a[0], a[1], cells, secco);
            case 20: return x.ofCell(a[0], a[1]);
            case 21: return x.over(a[0]);
            case 22: return x.tells(a[0], a[1], a[2], a[3], a[4], a[5]);
            case 23: return x.pins(cells);
            default: return x.bill(a[0], a[1], a[2]);
        }
    }
}
