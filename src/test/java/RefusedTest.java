import java.util.ArrayList;
import java.util.List;

/**
 * Terms: if several exceptions apply, the one named first is thrown, and a call that throws changes nothing.
 * Of each method all its good and bad arguments meet one another; what the object tells behind a refused call
 * is what one tells that never got that call. The document names the exceptions in one order everywhere.
 */
public final class RefusedTest {
    private static final String[] IN_ORDER = {
        "throws.IndexOutOfBoundsException", "throws.IllegalArgumentException", "throws.IllegalStateException"};
    private static final int NO_FAULT = 3;
    private static final String TOLD_USUAL = Told.of(usual());
    private static final String TOLD_FULL = Told.of(full());
    private static final Check check = new Check("RefusedTest");

    /** One choice for one argument, or for some that belong together, and what is wrong with it. */
    private static final class Option {
        final int fault;
        final long[] values;

        Option(int fault, long[] values) {
            this.fault = fault;
            this.values = values;
        }
    }

    private interface Call {
        Object on(Stuccohand x, long[] a);
    }

    private static Option good(long... values) {
        return new Option(NO_FAULT, values);
    }

    private static Option index(long... values) {
        return new Option(0, values);
    }

    private static Option argument(long... values) {
        return new Option(1, values);
    }

    private static Option state(long... values) {
        return new Option(2, values);
    }

    private static Option[] any(Option... options) {
        return options;
    }

    /** In range at both ends, and out of it next to them and far off. */
    private static Option[] ranged(int least, int most) {
        return any(good(least), good(most), argument(least - 1), argument(most + 1),
                argument(Integer.MIN_VALUE), argument(Integer.MAX_VALUE));
    }

    private static Option[] numbered(int first, int last) {
        return any(good(first), good(last), index(first - 1), index(last + 1),
                index(Integer.MIN_VALUE), index(Integer.MAX_VALUE));
    }

    public static void main(String[] args) {
        check.says("A call of a method that throws an exception changes nothing; if several exceptions apply,"
                + " the one that its @throws lines name first is thrown.");
        check.due("made alike, told alike", TOLD_USUAL, Told.of(usual()));
        check.due("made alike, told alike, full", TOLD_FULL, Told.of(full()));
        tellingTells();
        walls();
        coats();
        asking();
        mouldings();
        fresco();
        dampAndBills();
        check.finish();
    }

    /** Four strips: wet coats of today on 0 and 1, none on 2, a dry one on 3; two walls, two profiles, two patches. */
    private static Stuccohand usual() {
        Stuccohand x = new Stuccohand();
        x.wall(4, Stuccohand.BRICK);
        x.wall(1, Stuccohand.STONE);
        x.damp(0, 3);
        x.joint(0, 0);
        x.coat(0, 3, 3, 0, 5);
        x.profile(30);
        x.profile(1);
        x.depth(1, 9);
        x.patch(0xFF00L);
        x.paint(0, 2, 0x0F00L, false);
        x.window(3, 1);
        x.weather(20, 2);
        x.pass(3);
        x.coat(0, 0, 1, 1, 2);
        x.scratch(0, 1, 1);
        x.patch(0xFL);
        x.paint(1, 4, 0x3L, false);
        return x;
    }

    /** As many walls, profiles, depths, patches and coats on a strip as there may be, and the day but one of all. */
    private static Stuccohand full() {
        Stuccohand x = new Stuccohand();
        for (int i = 0; i < 10; i++) {
            x.wall(i == 0 ? 4 : 12, Stuccohand.STONE);
            x.profile(i + 1);
        }
        for (int i = 2; i <= 8; i++) {
            x.depth(0, i * 7);
        }
        x.weather(50, 20);
        for (int i = 0; i < 6; i++) {
            x.coat(0, 0, 0, 2, 1);
            x.pass(100);
        }
        for (int i = 0; i < 13; i++) {
            x.pass(100);
        }
        x.pass(99);
        for (int i = 0; i < 30; i++) {
            x.patch(3L << i);
        }
        x.coat(0, 1, 2, 3, 2);
        x.weather(9, 1);
        return x;
    }

    private static Stuccohand made(boolean full) {
        return full ? full() : usual();
    }

    /** The tests below are worth what Told tells: each change here must show. */
    private static void tellingTells() {
        List<Check.Call> changes = new ArrayList<>();
        Stuccohand[] x = new Stuccohand[1];
        changes.add(() -> x[0].wall(1, 0));
        changes.add(() -> weather(x[0], 18, 2));
        changes.add(() -> weather(x[0], 20, 1));
        changes.add(() -> x[0].damp(0, 2));
        changes.add(() -> x[0].damp(1, 1));
        changes.add(() -> x[0].joint(0, 2));
        changes.add(() -> x[0].coat(0, 2, 2, 0, 1));
        changes.add(() -> x[0].scratch(0, 0, 0));
        changes.add(() -> x[0].strike(0, 3));
        changes.add(() -> x[0].pass(1));
        changes.add(() -> x[0].profile(1));
        changes.add(() -> x[0].depth(0, 99));
        changes.add(() -> x[0].window(3, 0));
        changes.add(() -> x[0].patch(1L << 40));
        changes.add(() -> x[0].patch(2L));
        changes.add(() -> x[0].paint(1, 5, 1L, false));
        changes.add(() -> x[0].paint(0, 2, 1L << 11, true));
        for (int i = 0; i < changes.size(); i++) {
            x[0] = usual();
            Object got = Check.outcome(changes.get(i));
            check.due("change " + i + " answered " + got + " and shows", false, TOLD_USUAL.equals(Told.of(x[0])));
        }
    }

    private static Object weather(Stuccohand x, long warmth, long wind) {
        x.weather((int) warmth, (int) wind);
        return "nothing";
    }

    private static void walls() {
        Call wall = (x, a) -> x.wall((int) a[0], (int) a[1]);
        meet("wall", false, wall, ranged(1, 12), ranged(0, 2));
        meet("wall beyond 10", true, wall, any(state()), ranged(1, 12), ranged(0, 2));
        meet("weather", false, (x, a) -> weather(x, a[0], a[1]), ranged(0, 50), ranged(0, 20));
        Call damp = (x, a) -> x.damp((int) a[0], (int) a[1]);
        meet("damp", false, damp, numbered(0, 1), ranged(0, 30));
        meet("damp of ten", true, damp, numbered(0, 9), ranged(0, 30));
        Call joint = (x, a) -> x.joint((int) a[0], (int) a[1]);
        meet("joint", false, joint, any(good(0), index(-1), index(2), index(Integer.MAX_VALUE)), numbered(0, 2));
        meet("joint on one strip", false, joint, any(good(1)), any(index(0), index(-1), index(1)));
        Call pass = (x, a) -> x.pass((int) a[0]);
        meet("pass", false, pass, ranged(1, 100));
        meet("pass at the day 1999", true, pass, any(good(1), state(2), state(100), argument(101), argument(0),
                argument(Integer.MAX_VALUE), argument(Integer.MIN_VALUE)));
        Call strike = (x, a) -> x.strike((int) a[0], (int) a[1]);
        meet("strike", false, strike, any(good(0), index(-1), index(2)),
                any(good(0), good(3), state(2), index(-1), index(4), index(Integer.MAX_VALUE)));
    }

    private static void coats() {
        Option[] first = any(good(0), index(-1), index(2), index(Integer.MAX_VALUE), index(Integer.MIN_VALUE));
        Option[] missing = any(index(-1, 0), index(0, -1), index(0, 4), index(4, 4), index(4, 3), index(3, -1),
                index(Integer.MIN_VALUE, Integer.MAX_VALUE), index(Integer.MAX_VALUE, Integer.MIN_VALUE),
                argument(1, 0), argument(3, 2), argument(3, 0));
        Call coat = (x, a) -> x.coat((int) a[0], (int) a[1], (int) a[2], (int) a[3], (int) a[4]);
        Option[] plasters = any(good(0), argument(-1), argument(4), state(3));
        Option[] wet = any(good(2, 2), good(2, 3), good(3, 3), state(0, 0), state(1, 2), state(0, 3));
        meet("coat", false, coat, first, with(missing, wet), plasters, ranged(1, 20));
        Option[] six = any(good(3, 3), state(0, 0), state(0, 3), argument(1, 0), index(0, 4));
        meet("coat beyond 6", true, coat, any(good(0), index(10)), six,
                any(good(0), good(2), argument(-1), argument(4)), ranged(1, 20));
        Call scratch = (x, a) -> x.scratch((int) a[0], (int) a[1], (int) a[2]);
        Option[] tops = any(good(0, 0), good(1, 1), good(0, 1), state(2, 2), state(3, 3), state(0, 2), state(0, 3));
        meet("scratch", false, scratch, first, with(missing, tops));
    }

    private static Option[] with(Option[] some, Option[] more) {
        Option[] all = new Option[some.length + more.length];
        System.arraycopy(some, 0, all, 0, some.length);
        System.arraycopy(more, 0, all, some.length, more.length);
        return all;
    }

    private static void asking() {
        Option[] first = any(good(0), index(-1), index(2), index(Integer.MAX_VALUE));
        Option[] coats = any(good(0, 0), good(3, 0), index(0, 1), index(3, 1), index(0, -1), index(2, 0), index(-1, 0),
                index(4, 0), index(Integer.MAX_VALUE, Integer.MIN_VALUE));
        meet("ofCoat", false, (x, a) -> x.ofCoat((int) a[0], (int) a[1], (int) a[2], (int) a[3]),
                first, coats, ranged(0, 5));
        meet("ofCoat of six", true, (x, a) -> x.ofCoat(0, 0, (int) a[0], (int) a[1]), numbered(0, 5), ranged(0, 5));
        meet("coatsAnew", false, (x, a) -> x.coatsAnew((int) a[0], (int) a[1]), first, numbered(0, 3));
        meet("text", false, (x, a) -> x.text((int) a[0], (int) a[1], (int) a[2], (int) a[3]), first, coats,
                any(good(0), good(Integer.MAX_VALUE), index(-1), index(Integer.MIN_VALUE)));
    }

    private static void mouldings() {
        Call profile = (x, a) -> x.profile((int) a[0]);
        meet("profile", false, profile, ranged(1, 100));
        meet("profile beyond 10", true, profile, any(state()), ranged(1, 100));
        Call depth = (x, a) -> x.depth((int) a[0], (int) a[1]);
        meet("depth", false, depth, numbered(0, 1), ranged(1, 100));
        meet("depth beyond 8", true, depth, any(good(1), good(9), state(0), index(-1), index(10)), ranged(1, 100));
        meet("mitre", false, (x, a) -> x.mitre((int) a[0], (int) a[1]), numbered(0, 1), numbered(0, 1));
        meet("fits", false, (x, a) -> x.fits((int) a[0], (int) a[1]), ranged(1, 100000), ranged(1, 100000));
        meet("step", false, (x, a) -> x.step((int) a[0], (int) a[1]), ranged(1, 100000), ranged(1, 100000));
        meet("cut", false, (x, a) -> x.cut((int) a[0], (int) a[1], (int) a[2]),
                ranged(2000, 100000), ranged(1, 1000), ranged(0, 20));
    }

    private static void fresco() {
        meet("window", false, (x, a) -> x.window((int) a[0], (int) a[1]), numbered(0, 9), ranged(0, 3));
        Call patch = (x, a) -> x.patch(a[0]);
        Option[] sets = any(good(1L), good(1L << 47), good(-1L), argument(0L), argument(1L << 48), argument(Long.MIN_VALUE));
        meet("patch", false, patch, sets);
        meet("patch beyond 30", true, (x, a) -> x.patch(a[0]), any(state()), sets);
        Option[] ages = any(good(1, 0), good(0, 1), state(1, 1), state(0, 0), index(-1, 0), index(2, 0), index(2, 1),
                index(Integer.MAX_VALUE, 0), index(Integer.MIN_VALUE, 1));
        meet("paint", false, (x, a) -> x.paint((int) a[0], (int) a[2], a[3], a[1] == 1L), ages, numbered(0, 9),
                any(good(-1L), good(0L), good(1L << 48)));
        meet("ofCell", false, (x, a) -> x.ofCell((int) a[0], (int) a[1]), numbered(0, 47), ranged(0, 2));
        meet("over", false, (x, a) -> x.over((int) a[0]), numbered(0, 1));
        meet("over of thirty", true, (x, a) -> x.over((int) a[0]), numbered(0, 29));
    }

    private static void dampAndBills() {
        Option[] reading = any(good(0), good(99), argument(-1), argument(100));
        meet("tells", false, (x, a) -> x.tells((int) a[0], (int) a[1], (int) a[2], (int) a[3], (int) a[4], (int) a[5]),
                reading, reading, reading, any(good(50), argument(100)), any(good(0), argument(-1)), reading);
        meet("pins", false, (x, a) -> x.pins(a[0]), any(good(0L), good(-1L), good(Long.MIN_VALUE)));
        meet("bill", false, (x, a) -> x.bill((int) a[0], (int) a[1], (int) a[2]),
                numbered(0, 1), ranged(0, 5), ranged(1, 100));
    }

    private static void meet(String call, boolean full, Call made, Option[]... axes) {
        meetFrom(0, call, full, made, axes, NO_FAULT, new long[0]);
    }

    private static void meetFrom(int axis, String call, boolean full, Call made, Option[][] axes, int fault, long[] values) {
        if (axis == axes.length) {
            ask(call + java.util.Arrays.toString(values), full, made, fault, values);
            return;
        }
        for (Option option : axes[axis]) {
            long[] more = java.util.Arrays.copyOf(values, values.length + option.values.length);
            System.arraycopy(option.values, 0, more, values.length, option.values.length);
            meetFrom(axis + 1, call, full, made, axes, Math.min(fault, option.fault), more);
        }
    }

    private static void ask(String call, boolean full, Call made, int fault, long[] values) {
        Stuccohand x = made(full);
        if (fault == NO_FAULT) {
            check.answers(call, () -> made.on(x, values));
            return;
        }
        check.due(call, IN_ORDER[fault], Check.outcome(() -> made.on(x, values)));
        check.due(call + ": what is told then", full ? TOLD_FULL : TOLD_USUAL, Told.of(x));
    }
}
