/** Promises 1 to 12: walls and coats. */
public final class WallsTest {
    private static final Class<IndexOutOfBoundsException> INDEX = IndexOutOfBoundsException.class;
    private static final Class<IllegalArgumentException> ARGUMENT = IllegalArgumentException.class;
    private static final Class<IllegalStateException> STATE = IllegalStateException.class;
    private static final int LIME = 0, GAUGED = 1, GYPSUM = 2, CEMENT = 3;
    private static final Check check = new Check("WallsTest");

    public static void main(String[] args) {
        promise1NewObject();
        promise2Wall();
        promise3Weather();
        promise4Damp();
        promise5Joint();
        promise6CoatArguments();
        promise6CoatRefused();
        promise6CoatBonds();
        promise6CoatEdges();
        promise6EdgesOfLongerCoats();
        promise7Scratch();
        promise8Strike();
        promise9PassDries();
        promise9PassDays();
        promise9CementInHeat();
        promise10OfCoat();
        promise11CoatsAnew();
        promise12Text();
        check.finish();
    }

    private static Stuccohand withWall(int strips, int ground) {
        Stuccohand x = new Stuccohand();
        x.wall(strips, ground);
        return x;
    }

    private static void promise1NewObject() {
        Stuccohand x = new Stuccohand();
        check.fails("new: damp(0, 0)", INDEX, () -> x.damp(0, 0));
        check.fails("new: bill(0, 0, 1)", INDEX, () -> x.bill(0, 0, 1));
        check.fails("new: over(0)", INDEX, () -> x.over(0));
        check.fails("new: mitre(0, 0)", INDEX, () -> x.mitre(0, 0));
        check.due("new: ofCell(0, 0)", -1, x.ofCell(0, 0));
        check.due("new: ofCell(0, 1)", -1, x.ofCell(0, 1));
        check.due("new: first wall", 0, x.wall(1, Stuccohand.STONE));
        check.due("new: damp", 0, x.damp(0, 0));
        x.coat(0, 0, 0, GYPSUM, 5);
        check.due("new: the day", 0, x.ofCoat(0, 0, 0, 2));
        check.due("new: ten points in two days of warmth 10", 1, x.pass(2));
    }

    private static void promise2Wall() {
        Stuccohand x = new Stuccohand();
        check.fails("wall(0, 0)", ARGUMENT, () -> x.wall(0, 0));
        check.fails("wall(13, 0)", ARGUMENT, () -> x.wall(13, 0));
        check.fails("wall(MIN, 0)", ARGUMENT, () -> x.wall(Integer.MIN_VALUE, 0));
        check.fails("wall(1, -1)", ARGUMENT, () -> x.wall(1, -1));
        check.fails("wall(1, 3)", ARGUMENT, () -> x.wall(1, 3));
        for (int i = 0; i < 10; i++) {
            check.due("wall " + i, i, x.wall(i < 5 ? 12 : 1, i % 3));
        }
        check.fails("an eleventh wall", STATE, () -> x.wall(1, 0));
        check.fails("an eleventh wall, of no ground", ARGUMENT, () -> x.wall(1, 3));
        check.due("strip 11 of wall 0", 0, x.coatsAnew(0, 11));
        check.fails("strip 12 of wall 0", INDEX, () -> x.coatsAnew(0, 12));
        check.fails("strip 1 of wall 9", INDEX, () -> x.coatsAnew(9, 1));
    }

    private static void promise3Weather() {
        Stuccohand x = withWall(1, Stuccohand.STONE);
        check.fails("weather(-1, 0)", ARGUMENT, () -> weather(x, -1, 0));
        check.fails("weather(51, 0)", ARGUMENT, () -> weather(x, 51, 0));
        check.fails("weather(50, -1)", ARGUMENT, () -> weather(x, 50, -1));
        check.fails("weather(50, 21)", ARGUMENT, () -> weather(x, 50, 21));
        x.coat(0, 0, 0, LIME, 20);
        check.due("80 points by 5 a day, 15 days", 0, x.pass(15));
        check.due("80 points by 5 a day, 16 days", 1, x.pass(1));
        weather(x, 50, 20);
        x.coat(0, 0, 0, LIME, 20);
        check.due("80 points by 45 a day, 1 day", 0, x.pass(1));
        check.due("80 points by 45 a day, 2 days", 1, x.pass(1));
        weather(x, 0, 0);
        x.coat(0, 0, 0, LIME, 2);
        check.due("8 points by at least 1 a day, 7 days", 0, x.pass(7));
        check.due("8 points by at least 1 a day, 8 days", 1, x.pass(1));
        weather(x, 11, 2);
        x.coat(0, 0, 0, LIME, 7);
        check.due("28 points by 7 a day, 3 days", 0, x.pass(3));
        check.due("28 points by 7 a day, 4 days", 1, x.pass(1));
    }

    private static int weather(Stuccohand x, int warmth, int wind) {
        x.weather(warmth, wind);
        return 0;
    }

    private static void promise4Damp() {
        Stuccohand x = withWall(1, Stuccohand.STONE);
        x.wall(1, Stuccohand.STONE);
        check.fails("damp(2, 0)", INDEX, () -> x.damp(2, 0));
        check.fails("damp(-1, 31)", INDEX, () -> x.damp(-1, 31));
        check.fails("damp(0, -1)", ARGUMENT, () -> x.damp(0, -1));
        check.fails("damp(0, 31)", ARGUMENT, () -> x.damp(0, 31));
        check.due("damp at first", 0, x.damp(0, 30));
        check.due("damp then", 30, x.damp(0, 2));
        check.due("damp at last", 2, x.damp(0, 2));
        check.due("damp of the other wall", 0, x.damp(1, 0));
        x.coat(0, 0, 0, LIME, 3);
        x.coat(1, 0, 0, LIME, 3);
        check.due("12 points by 5 on the dry wall", 1, x.pass(3));
        check.due("12 points by 3 on the damp wall", 1, x.pass(1));
        x.damp(0, 30);
        x.coat(0, 0, 0, LIME, 1);
        check.due("at least 1 point, 3 days", 0, x.pass(3));
        check.due("at least 1 point, 4 days", 1, x.pass(1));
    }

    private static void promise5Joint() {
        Stuccohand x = withWall(3, Stuccohand.BRICK);
        x.wall(1, Stuccohand.BRICK);
        check.fails("joint(2, 0)", INDEX, () -> x.joint(2, 0));
        check.fails("joint(-1, 0)", INDEX, () -> x.joint(-1, 0));
        check.fails("joint(0, -1)", INDEX, () -> x.joint(0, -1));
        check.fails("joint(0, 2)", INDEX, () -> x.joint(0, 2));
        check.fails("joint(0, MAX)", INDEX, () -> x.joint(0, Integer.MAX_VALUE));
        check.fails("joint of a wall of one strip", INDEX, () -> x.joint(1, 0));
        check.due("joint(0, 1)", false, x.joint(0, 1));
        check.due("joint(0, 1) again", true, x.joint(0, 1));
        check.due("joint(0, 0)", false, x.joint(0, 0));
    }

    private static void promise6CoatArguments() {
        Stuccohand x = withWall(3, Stuccohand.STONE);
        check.fails("no wall", INDEX, () -> x.coat(1, 0, 0, 0, 1));
        check.fails("no wall, and all else wrong", INDEX, () -> x.coat(-1, 3, 2, 4, 0));
        check.fails("from -1", INDEX, () -> x.coat(0, -1, 0, 0, 1));
        check.fails("from 3", INDEX, () -> x.coat(0, 3, 2, 4, 0));
        check.fails("to 3", INDEX, () -> x.coat(0, 0, 3, 4, 0));
        check.fails("to MAX", INDEX, () -> x.coat(0, 0, Integer.MAX_VALUE, 0, 1));
        check.fails("to ahead of from", ARGUMENT, () -> x.coat(0, 2, 1, 0, 1));
        check.fails("to -1", INDEX, () -> x.coat(0, 2, -1, 0, 1));
        check.fails("plaster -1", ARGUMENT, () -> x.coat(0, 0, 0, -1, 1));
        check.fails("plaster 4", ARGUMENT, () -> x.coat(0, 0, 0, 4, 1));
        check.fails("thick 0", ARGUMENT, () -> x.coat(0, 0, 0, 0, 0));
        check.fails("thick 21", ARGUMENT, () -> x.coat(0, 0, 0, 0, 21));
        check.due("thick 20 of gypsum", 0, x.coat(0, 0, 2, GYPSUM, 20));
        check.fails("refused, and thick 21", ARGUMENT, () -> x.coat(0, 0, 0, CEMENT, 21));
        check.fails("refused", STATE, () -> x.coat(0, 0, 0, CEMENT, 20));
    }

    private static void promise6CoatRefused() {
        for (int ground = 0; ground < 3; ground++) {
            for (int plaster = 0; plaster < 4; plaster++) {
                Stuccohand x = withWall(1, ground);
                int kind = plaster;
                boolean soft = ground + 2 < plaster + 1;
                Object got = Check.outcome(() -> x.coat(0, 0, 0, kind, 1));
                check.due("plaster " + plaster + " on ground " + ground, soft ? "throws.IllegalStateException" : 0, got);
            }
        }
        for (int below = 0; below < 4; below++) {
            for (int plaster = 0; plaster < 4; plaster++) {
                Stuccohand x = withWall(1, Stuccohand.STONE);
                int kind = plaster;
                x.coat(0, 0, 0, below, 1);
                check.fails("a coat on a wet one", STATE, () -> x.coat(0, 0, 0, LIME, 1));
                x.pass(1);
                Object got = Check.outcome(() -> x.coat(0, 0, 0, kind, 1));
                check.due("plaster " + plaster + " on " + below, below < plaster ? "throws.IllegalStateException" : 0, got);
            }
        }
        Stuccohand x = withWall(3, Stuccohand.STONE);
        x.coat(0, 2, 2, LIME, 1);
        check.fails("one strip is wet", STATE, () -> x.coat(0, 0, 2, LIME, 1));
        check.due("and none got a coat", 0, x.coatsAnew(0, 0));
        x.pass(1);
        for (int i = 0; i < 5; i++) {
            x.coat(0, 2, 2, LIME, 1);
            x.pass(1);
        }
        check.due("six coats", 6, x.coatsAnew(0, 2));
        check.fails("a seventh coat", STATE, () -> x.coat(0, 2, 2, LIME, 1));
        check.fails("a seventh coat on the last of three", STATE, () -> x.coat(0, 0, 2, LIME, 1));
        check.due("struck", 5, x.strike(0, 2));
        check.due("a sixth one again", 0, x.coat(0, 2, 2, LIME, 1));
        check.due("six of them", 6, x.coatsAnew(0, 2));
    }

    private static void promise6CoatBonds() {
        int[] keys = {20, 30, 10};
        int[] shrinks = {2, 3, 0, 5};
        for (int ground = 0; ground < 3; ground++) {
            for (int plaster = 0; plaster < 4 && plaster < ground + 2; plaster++) {
                for (int thick = 1; thick <= 20; thick++) {
                    Stuccohand x = withWall(2, ground);
                    boolean bonds = shrinks[plaster] * thick <= keys[ground];
                    String call = thick + " mm of " + plaster + " on ground " + ground;
                    check.due(call, bonds ? 0 : 2, x.coat(0, 0, 1, plaster, thick));
                    check.due(call + ", cracked", bonds ? 0 : 1, x.ofCoat(0, 1, 0, 4));
                }
            }
        }
        for (int scratched = 0; scratched < 2; scratched++) {
            for (int plaster = 0; plaster < 4; plaster++) {
                for (int thick = 1; thick <= 20; thick++) {
                    Stuccohand x = withWall(1, Stuccohand.STONE);
                    x.coat(0, 0, 0, CEMENT, 1);
                    if (scratched == 1) {
                        x.scratch(0, 0, 0);
                    }
                    x.pass(1);
                    boolean bonds = shrinks[plaster] * thick <= (scratched == 1 ? 25 : 10);
                    String call = thick + " mm of " + plaster + " on a coat, scratched " + scratched;
                    check.due(call, bonds ? 0 : 1, x.coat(0, 0, 0, plaster, thick));
                }
            }
        }
    }

    private static void promise6CoatEdges() {
        Stuccohand x = withWall(3, Stuccohand.BRICK);
        x.coat(0, 0, 0, LIME, 2);
        check.due("beside one of the same day", 0, x.coat(0, 1, 1, LIME, 2));
        x.pass(1);
        check.due("beside an earlier one ahead of it", 1, x.coat(0, 2, 2, LIME, 2));
        check.due("its coat is cracked", 1, x.ofCoat(0, 2, 0, 4));
        check.due("the neighbour's is not", 0, x.ofCoat(0, 1, 0, 4));

        Stuccohand y = withWall(3, Stuccohand.BRICK);
        y.coat(0, 2, 2, LIME, 2);
        y.pass(1);
        check.due("beside an earlier one behind it", 1, y.coat(0, 0, 1, LIME, 2));
        check.due("the far strip has no edge", 0, y.ofCoat(0, 0, 0, 4));

        Stuccohand z = withWall(3, Stuccohand.BRICK);
        z.coat(0, 2, 2, GAUGED, 2);
        z.pass(1);
        check.due("beside another plaster", 0, z.coat(0, 1, 1, LIME, 2));

        Stuccohand j = withWall(3, Stuccohand.BRICK);
        j.coat(0, 0, 0, LIME, 2);
        j.coat(0, 2, 2, LIME, 2);
        j.pass(1);
        j.joint(0, 0);
        check.due("a joint on one of two sides", 1, j.coat(0, 1, 1, LIME, 2));
        j.strike(0, 1);
        j.joint(0, 1);
        check.due("a joint on both sides", 0, j.coat(0, 1, 1, LIME, 2));

        Stuccohand late = withWall(2, Stuccohand.BRICK);
        late.coat(0, 0, 0, LIME, 2);
        late.pass(1);
        late.coat(0, 1, 1, LIME, 2);
        late.joint(0, 0);
        check.due("a joint that comes too late", 1, late.ofCoat(0, 1, 0, 4));

        Stuccohand beyond = withWall(3, Stuccohand.STONE);
        beyond.coat(0, 2, 2, CEMENT, 20);
        beyond.coat(0, 0, 0, CEMENT, 20);
        beyond.pass(10);
        check.due("cracked ones that were not told do not count", 0, beyond.coat(0, 1, 1, LIME, 1));

        Stuccohand far = withWall(3, Stuccohand.BRICK);
        far.coat(0, 0, 0, LIME, 2);
        far.pass(1);
        check.due("a strip between", 0, far.coat(0, 2, 2, LIME, 2));

        Stuccohand both = withWall(1, Stuccohand.BRICK);
        both.wall(1, Stuccohand.BRICK);
        both.coat(0, 0, 0, LIME, 2);
        both.pass(1);
        check.due("another wall", 0, both.coat(1, 0, 0, LIME, 2));
    }

    private static void promise6EdgesOfLongerCoats() {
        Stuccohand x = withWall(2, Stuccohand.BRICK);
        x.coat(0, 0, 1, LIME, 1);
        x.pass(1);
        x.coat(0, 0, 0, LIME, 1);
        x.pass(1);
        check.due("a neighbour with two coats, the second one told", 1, x.coat(0, 1, 1, LIME, 1));

        Stuccohand y = withWall(2, Stuccohand.BRICK);
        y.coat(0, 0, 1, LIME, 1);
        y.pass(1);
        check.due("a neighbour with a coat less", 0, y.coat(0, 0, 0, LIME, 1));

        Stuccohand z = withWall(2, Stuccohand.BRICK);
        z.coat(0, 0, 0, LIME, 1);
        z.pass(1);
        z.coat(0, 0, 0, LIME, 1);
        z.pass(1);
        check.due("a neighbour with a coat more", 0, z.coat(0, 1, 1, LIME, 1));
        z.pass(1);
        check.due("both get a coat: behind that no longer as many", 0, z.coat(0, 0, 1, LIME, 1));

        Stuccohand mixed = withWall(2, Stuccohand.BRICK);
        mixed.coat(0, 0, 1, GAUGED, 1);
        mixed.pass(1);
        mixed.coat(0, 0, 0, LIME, 1);
        mixed.pass(1);
        check.due("the uppermost plaster counts", 0, mixed.coat(0, 1, 1, GAUGED, 1));
        mixed.strike(0, 1);
        check.due("the uppermost plaster, the same", 1, mixed.coat(0, 1, 1, LIME, 1));
    }

    private static void promise7Scratch() {
        Stuccohand x = withWall(3, Stuccohand.BRICK);
        check.fails("no wall", INDEX, () -> x.scratch(1, 0, 0));
        check.fails("from -1", INDEX, () -> x.scratch(0, -1, 0));
        check.fails("from 3", INDEX, () -> x.scratch(0, 3, 0));
        check.fails("to 3", INDEX, () -> x.scratch(0, 0, 3));
        check.fails("to ahead of from", ARGUMENT, () -> x.scratch(0, 1, 0));
        check.fails("no coat", STATE, () -> x.scratch(0, 0, 0));
        x.coat(0, 0, 1, LIME, 1);
        check.fails("no coat on the last strip", STATE, () -> x.scratch(0, 0, 2));
        check.due("and none is scratched", 0, x.ofCoat(0, 0, 0, 5));
        check.due("the first one", 1, x.scratch(0, 0, 0));
        check.due("scratched alone", 0, x.ofCoat(0, 1, 0, 5));
        x.strike(0, 0);
        x.coat(0, 0, 0, LIME, 1);
        check.due("a coat laid anew is not scratched", 0, x.ofCoat(0, 0, 0, 5));
        check.due("one", 1, x.scratch(0, 1, 1));
        check.due("two, one of them again", 1, x.scratch(0, 0, 1));
        check.due("two again", 0, x.scratch(0, 0, 1));
        check.due("scratched", 1, x.ofCoat(0, 0, 0, 5));
        x.pass(1);
        check.fails("on the next day", STATE, () -> x.scratch(0, 0, 1));
        x.coat(0, 1, 2, LIME, 1);
        check.fails("one of three of yesterday", STATE, () -> x.scratch(0, 0, 2));
        check.due("two of today", 2, x.scratch(0, 1, 2));
        check.due("a new coat is not scratched", 1, x.ofCoat(0, 1, 1, 5));
        x.strike(0, 1);
        check.fails("struck down to an older one", STATE, () -> x.scratch(0, 1, 1));
        check.due("the older one stays scratched", 1, x.ofCoat(0, 1, 0, 5));
    }

    private static void promise8Strike() {
        Stuccohand x = withWall(2, Stuccohand.BRICK);
        check.fails("no wall", INDEX, () -> x.strike(1, 0));
        check.fails("no strip", INDEX, () -> x.strike(0, 2));
        check.fails("strip -1", INDEX, () -> x.strike(0, -1));
        check.fails("no coat", STATE, () -> x.strike(0, 0));
        x.coat(0, 0, 0, GAUGED, 1);
        x.pass(1);
        x.coat(0, 0, 0, LIME, 2);
        check.due("one left", 1, x.strike(0, 0));
        check.due("the lower one is left", GAUGED, x.ofCoat(0, 0, 0, 0));
        check.due("it stays dry", 1, x.ofCoat(0, 0, 0, 3));
        check.fails("no second coat", INDEX, () -> x.ofCoat(0, 0, 1, 0));
        check.due("none left", 0, x.strike(0, 0));
        check.fails("none to strike", STATE, () -> x.strike(0, 0));
        check.due("the ground is bare", 0, x.coat(0, 0, 0, GYPSUM, 20));
    }

    private static void promise9PassDries() {
        int[] needs = {4, 3, 2, 3};
        for (int plaster = 0; plaster < 4; plaster++) {
            Stuccohand x = withWall(3, Stuccohand.STONE);
            x.weather(2, 0);
            x.coat(0, 0, 2, plaster, 2);
            check.due("a day ahead of dry, plaster " + plaster, 0, x.pass(2 * needs[plaster] - 1));
            check.due("not dry", 0, x.ofCoat(0, 2, 0, 3));
            check.due("dry, plaster " + plaster, 3, x.pass(1));
            check.due("dry", 1, x.ofCoat(0, 2, 0, 3));
            check.due("dry once alone", 0, x.pass(100));
        }
        Stuccohand x = withWall(2, Stuccohand.STONE);
        x.weather(15, 3);
        x.damp(0, 4);
        x.coat(0, 0, 0, LIME, 3);
        check.due("12 points by 7 / 2 rounded and 3 less 4, a day", 0, x.pass(1));
        x.coat(0, 1, 1, LIME, 1);
        check.due("both at once", 2, x.pass(1));
    }

    private static void promise9PassDays() {
        Stuccohand x = withWall(1, Stuccohand.STONE);
        check.fails("pass(0)", ARGUMENT, () -> x.pass(0));
        check.fails("pass(-1)", ARGUMENT, () -> x.pass(-1));
        check.fails("pass(101)", ARGUMENT, () -> x.pass(101));
        check.fails("pass(MAX)", ARGUMENT, () -> x.pass(Integer.MAX_VALUE));
        for (int i = 0; i < 19; i++) {
            x.pass(100);
        }
        x.pass(99);
        check.fails("1999 and 2", STATE, () -> x.pass(2));
        check.fails("1999 and 101", ARGUMENT, () -> x.pass(101));
        x.coat(0, 0, 0, GYPSUM, 1);
        check.due("the day 1999", 1999, x.ofCoat(0, 0, 0, 2));
        check.due("1999 and 1", 1, x.pass(1));
        check.fails("2000 and 1", STATE, () -> x.pass(1));
        x.coat(0, 0, 0, GYPSUM, 1);
        check.due("the day 2000", 2000, x.ofCoat(0, 0, 1, 2));
    }

    private static void promise9CementInHeat() {
        for (int plaster = 0; plaster < 4; plaster++) {
            for (int warmth = 29; warmth <= 31; warmth++) {
                Stuccohand x = withWall(1, Stuccohand.STONE);
                x.weather(warmth, 0);
                x.coat(0, 0, 0, plaster, 1);
                x.pass(1);
                boolean cracks = plaster == CEMENT && warmth >= 30;
                check.due(plaster + " dry by " + warmth, cracks ? 1 : 0, x.ofCoat(0, 0, 0, 4));
            }
        }
        Stuccohand x = withWall(1, Stuccohand.STONE);
        x.weather(30, 0);
        x.damp(0, 30);
        x.coat(0, 0, 0, CEMENT, 1);
        x.pass(2);
        x.weather(29, 0);
        x.pass(1);
        check.due("heat ahead of the day on which it comes to be dry", 0, x.ofCoat(0, 0, 0, 4));
        x.weather(50, 0);
        x.pass(5);
        check.due("heat behind that day", 0, x.ofCoat(0, 0, 0, 4));
    }

    private static void promise10OfCoat() {
        Stuccohand x = withWall(2, Stuccohand.STONE);
        x.pass(7);
        x.coat(0, 0, 1, CEMENT, 3);
        x.scratch(0, 1, 1);
        x.pass(2);
        x.coat(0, 1, 1, GAUGED, 9);
        int[][] dues = {{0, 3, 3}, {1, 3, 3}, {2, 7, 7}, {3, 1, 1}, {4, 1, 1}, {5, 0, 1}};
        for (int[] due : dues) {
            check.due("strip 0, coat 0, " + due[0], due[1], x.ofCoat(0, 0, 0, due[0]));
            check.due("strip 1, coat 0, " + due[0], due[2], x.ofCoat(0, 1, 0, due[0]));
        }
        int[] upper = {GAUGED, 9, 9, 0, 1, 0};
        for (int what = 0; what < 6; what++) {
            check.due("strip 1, coat 1, " + what, upper[what], x.ofCoat(0, 1, 1, what));
        }
        Stuccohand y = withWall(4, Stuccohand.STONE);
        for (int plaster = 0; plaster < 4; plaster++) {
            y.coat(0, plaster, plaster, plaster, 1);
            check.due("the plaster of strip " + plaster, plaster, y.ofCoat(0, plaster, 0, 0));
        }
        check.fails("no wall", INDEX, () -> x.ofCoat(1, 0, 0, 0));
        check.fails("no strip", INDEX, () -> x.ofCoat(0, 2, 0, 0));
        check.fails("no coat", INDEX, () -> x.ofCoat(0, 0, 1, 6));
        check.fails("coat -1", INDEX, () -> x.ofCoat(0, 0, -1, 0));
        check.fails("what -1", ARGUMENT, () -> x.ofCoat(0, 0, 0, -1));
        check.fails("what 6", ARGUMENT, () -> x.ofCoat(0, 0, 0, 6));
    }

    private static void promise11CoatsAnew() {
        Stuccohand x = withWall(3, Stuccohand.STONE);
        x.wall(3, Stuccohand.STONE);
        x.coat(0, 0, 1, LIME, 1);
        x.coat(1, 2, 2, LIME, 1);
        x.pass(1);
        x.coat(0, 1, 2, LIME, 1);
        check.fails("refused", STATE, () -> x.coat(0, 0, 2, LIME, 1));
        int[] first = {1, 2, 1};
        int[] second = {0, 0, 1};
        for (int strip = 0; strip < 3; strip++) {
            check.due("wall 0, strip " + strip, first[strip], x.coatsAnew(0, strip));
            check.due("wall 1, strip " + strip, second[strip], x.coatsAnew(1, strip));
        }
        x.strike(0, 1);
        check.due("struck", 1, x.coatsAnew(0, 1));
        check.due("not struck", 1, x.coatsAnew(0, 2));
        check.fails("no wall", INDEX, () -> x.coatsAnew(2, 0));
        check.fails("no strip", INDEX, () -> x.coatsAnew(0, 3));
        check.fails("strip -1", INDEX, () -> x.coatsAnew(0, -1));
    }

    private static void promise12Text() {
        Stuccohand x = withWall(4, Stuccohand.STONE);
        x.coat(0, 0, 0, LIME, 1);
        x.coat(0, 1, 1, GAUGED, 20);
        x.coat(0, 2, 2, GYPSUM, 10);
        x.coat(0, 3, 3, CEMENT, 2);
        check.due("lime", "lime 1mm", Check.textOf(x, 0, 0, 0));
        check.due("gauged", "gauged 20mm cracked", Check.textOf(x, 0, 1, 0));
        check.due("gypsum", "gypsum 10mm", Check.textOf(x, 0, 2, 0));
        check.due("cement", "cement 2mm", Check.textOf(x, 0, 3, 0));
        x.weather(30, 20);
        x.pass(1);
        check.due("lime dry", "lime 1mm dry", Check.textOf(x, 0, 0, 0));
        check.due("cement dry", "cement 2mm dry cracked", Check.textOf(x, 0, 3, 0));
        check.due("behind the last sign", (char) 0, x.text(0, 3, 0, 22));
        check.due("far behind it", (char) 0, x.text(0, 3, 0, Integer.MAX_VALUE));
        check.fails("no wall", INDEX, () -> x.text(1, 0, 0, 0));
        check.fails("no strip", INDEX, () -> x.text(0, 4, 0, 0));
        check.fails("no coat", INDEX, () -> x.text(0, 0, 1, 0));
        check.fails("place -1", INDEX, () -> x.text(0, 0, 0, -1));
        check.fails("place MIN", INDEX, () -> x.text(0, 0, 0, Integer.MIN_VALUE));
    }
}
