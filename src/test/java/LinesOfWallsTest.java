/** Each line of the promises 1 to 12, on what an argument may be, what is returned and what is thrown, at its edges. */
public final class LinesOfWallsTest {
    private static final Class<IndexOutOfBoundsException> INDEX = Check.INDEX;
    private static final Class<IllegalArgumentException> ARGUMENT = Check.ARGUMENT;
    private static final Class<IllegalStateException> STATE = Check.STATE;
    private static final int FAR_BELOW = Integer.MIN_VALUE, FAR_ABOVE = Integer.MAX_VALUE;
    private static final int LIME = 0, GAUGED = 1, GYPSUM = 2, CEMENT = 3;
    private static final Check check = new Check("LinesOfWallsTest");

    public static void main(String[] args) {
        newObject();
        wall();
        weather();
        damp();
        joint();
        coatArguments();
        coatReturns();
        coatThrows();
        scratch();
        scratchThrows();
        strike();
        pass();
        ofCoat();
        ofCoatNumbers();
        coatsAnew();
        text();
        check.finish();
    }

    private static void newObject() {
        check.says(1, "The day 0, no walls.");
        Stuccohand x = new Stuccohand();
        check.fails("no wall to ask of", INDEX, () -> x.coatsAnew(0, 0));
        check.fails("no wall to plaster", INDEX, () -> x.coat(0, 0, 0, LIME, 1));
        check.due("the first wall", 0, x.wall(1, Stuccohand.LATH));
        x.coat(0, 0, 0, LIME, 1);
        check.due("the day", 0, x.ofCoat(0, 0, 0, 2));
        Stuccohand other = new Stuccohand();
        check.fails("a second object has no wall either", INDEX, () -> other.damp(0, 0));
        for (int i = 0; i < 20; i++) {
            other.pass(100);
        }
        check.fails("2000 days were left", STATE, () -> other.pass(1));
    }

    private static void wall() {
        check.says(2, "`strips`: 1 to 12");
        check.range("strips", 1, 12, ARGUMENT, n -> new Stuccohand().wall(n, Stuccohand.LATH));
        check.says(2, "`ground`: LATH to STONE");
        check.range("ground", Stuccohand.LATH, Stuccohand.STONE, ARGUMENT, n -> new Stuccohand().wall(1, n));
        check.says(2, "Returns its number.");
        Stuccohand x = new Stuccohand();
        for (int i = 0; i < 10; i++) {
            check.due("wall " + i, i, x.wall(i + 1, i % 3));
        }
        check.says(2, "Throws `IllegalArgumentException` if strips or ground is out of range");
        check.fails("no strips on a good ground", ARGUMENT, () -> new Stuccohand().wall(0, 0));
        check.fails("good strips on no ground", ARGUMENT, () -> new Stuccohand().wall(12, 3));
        check.fails("both out of range", ARGUMENT, () -> new Stuccohand().wall(13, -1));
        check.fails("out of range, and there are 10", ARGUMENT, () -> x.wall(13, 0));
        check.says(2, "Throws `IllegalStateException` if there are 10");
        check.fails("an eleventh one", STATE, () -> x.wall(1, 0));
        check.due("the tenth one is left as it is", 0, x.coatsAnew(9, 9));
        check.fails("there is no eleventh one", INDEX, () -> x.coatsAnew(10, 0));
        Stuccohand y = new Stuccohand();
        check.fails("refused", ARGUMENT, () -> y.wall(0, 0));
        check.due("a refused one takes no number", 0, y.wall(1, 0));
    }

    private static Object told(Stuccohand x, int warmth, int wind) {
        x.weather(warmth, wind);
        return "told";
    }

    private static void weather() {
        check.says(3, "`warmth`: 0 to 50");
        check.range("warmth", 0, 50, ARGUMENT, n -> told(new Stuccohand(), n, 0));
        check.due("warmth 0: 4 points in 4 days", 4, daysOfLime(0, 0, 1));
        check.due("warmth 50: 80 points in 4 days", 4, daysOfLime(50, 0, 20));
        check.says(3, "`wind`: 0 to 20");
        check.range("wind", 0, 20, ARGUMENT, n -> told(new Stuccohand(), 0, n));
        check.due("wind 0: 4 points in 4 days", 4, daysOfLime(0, 0, 1));
        check.due("wind 20: 80 points in 4 days", 4, daysOfLime(0, 20, 20));
        check.due("both at most: 80 points in 2 days", 2, daysOfLime(50, 20, 20));
        check.says(3, "Throws `IllegalArgumentException` if warmth or wind is out of range");
        Stuccohand x = Check.withWall(1, Stuccohand.STONE);
        x.coat(0, 0, 0, LIME, 5);
        check.fails("warmth too high alone", ARGUMENT, () -> told(x, 51, 20));
        check.fails("wind too high alone", ARGUMENT, () -> told(x, 50, 21));
        check.fails("warmth too low alone", ARGUMENT, () -> told(x, -1, 0));
        check.fails("wind too low alone", ARGUMENT, () -> told(x, 0, -1));
        check.fails("both", ARGUMENT, () -> told(x, FAR_ABOVE, FAR_BELOW));
        check.due("the weather is the first one still, 3 days", 0, x.pass(3));
        check.due("the weather is the first one still, 4 days", 1, x.pass(1));
    }

    private static int daysOfLime(int warmth, int wind, int thick) {
        Stuccohand x = Check.withWall(1, Stuccohand.STONE);
        x.weather(warmth, wind);
        x.coat(0, 0, 0, LIME, thick);
        for (int day = 1; day <= 100; day++) {
            if (x.pass(1) == 1) {
                return day;
            }
        }
        return -1;
    }

    private static void damp() {
        Stuccohand x = new Stuccohand();
        check.says(4, "`wall`: a wall");
        check.fails("none yet", INDEX, () -> x.damp(0, 0));
        for (int i = 0; i < 10; i++) {
            x.wall(1, 0);
        }
        check.range("wall", 0, 9, INDEX, n -> x.damp(n, 0));
        check.says(4, "`damp`: 0 to 30");
        check.range("damp", 0, 30, ARGUMENT, n -> x.damp(0, n));
        check.says(4, "Returns how damp it was.");
        check.due("at first", 0, x.damp(9, 30));
        check.due("as damp as may be", 30, x.damp(9, 1));
        check.due("then", 1, x.damp(9, 1));
        check.due("told the same again", 1, x.damp(9, 0));
        check.due("at last", 0, x.damp(9, 7));
        check.due("the other wall", 0, x.damp(8, 0));
        check.says(4, "Throws `IndexOutOfBoundsException` if there is no such wall");
        check.fails("wall 10", INDEX, () -> x.damp(10, 0));
        check.fails("wall -1, too damp", INDEX, () -> x.damp(-1, 31));
        check.says(4, "Throws `IllegalArgumentException` if damp is out of range");
        check.fails("damp -1", ARGUMENT, () -> x.damp(9, -1));
        check.fails("damp 31", ARGUMENT, () -> x.damp(9, 31));
        check.due("neither was told", 7, x.damp(9, 7));
    }

    private static void joint() {
        Stuccohand x = Check.withWall(12, 0);
        x.wall(1, 0);
        x.wall(2, 0);
        check.says(5, "`wall`: a wall");
        check.range("the last one, behind one of one strip", 2, 2, INDEX, n -> x.joint(n, 0));
        check.range("one of ten", 0, 9, INDEX, n -> tenWallsOfTwo().joint(n, 0));
        check.says(5, "`strip`: a strip that has a next one");
        check.range("strip of 12", 0, 10, INDEX, n -> x.joint(0, n));
        check.range("strip of 2", 0, 0, INDEX, n -> x.joint(2, n));
        check.fails("the last strip", INDEX, () -> x.joint(0, 11));
        check.fails("the only strip", INDEX, () -> x.joint(1, 0));
        check.says(5, "Returns whether there was one.");
        Stuccohand y = Check.withWall(3, 0);
        y.wall(3, 0);
        check.due("none yet", false, y.joint(0, 1));
        check.due("one", true, y.joint(0, 1));
        check.due("and again", true, y.joint(0, 1));
        check.due("none ahead of it", false, y.joint(0, 0));
        check.due("none on the other wall", false, y.joint(1, 1));
        check.says(5, "Throws `IndexOutOfBoundsException` if there is no such wall, or strip");
        check.fails("no such wall", INDEX, () -> y.joint(2, 0));
        check.fails("wall -1", INDEX, () -> y.joint(-1, 0));
        check.fails("no such strip", INDEX, () -> y.joint(1, 3));
        check.fails("strip -1", INDEX, () -> y.joint(1, -1));
        check.fails("strip 2 of 3", INDEX, () -> y.joint(1, 2));
        check.due("none was planned by those", false, y.joint(1, 0));
    }

    private static Stuccohand tenWallsOfTwo() {
        Stuccohand x = new Stuccohand();
        for (int i = 0; i < 10; i++) {
            x.wall(2, Stuccohand.STONE);
        }
        return x;
    }

    private static void coatArguments() {
        check.says(6, "`wall`: a wall");
        check.range("wall", 0, 9, INDEX, n -> tenWalls().coat(n, 0, 0, LIME, 1));
        check.fails("none yet", INDEX, () -> new Stuccohand().coat(0, 0, 0, LIME, 1));
        check.says(6, "`from`: a strip");
        check.range("from, of 12", 0, 11, INDEX, n -> tenWalls().coat(0, n, 11, LIME, 1));
        check.range("from, of 1", 0, 0, INDEX, n -> tenWalls().coat(9, n, 0, LIME, 1));
        check.says(6, "`to`: a strip not ahead of it");
        check.range("to, of 12", 0, 11, INDEX, n -> tenWalls().coat(0, 0, n, LIME, 1));
        check.answers("to as from", () -> tenWalls().coat(0, 6, 6, LIME, 1));
        check.fails("to ahead of from by one", ARGUMENT, () -> tenWalls().coat(0, 6, 5, LIME, 1));
        check.fails("to ahead of from by all", ARGUMENT, () -> tenWalls().coat(0, 11, 0, LIME, 1));
        check.says(6, "`plaster`: 0 to 3");
        check.range("plaster", 0, 3, ARGUMENT, n -> tenWalls().coat(2, 0, 0, n, 1));
        check.says(6, "`thick`: 1 to 20");
        check.range("thick", 1, 20, ARGUMENT, n -> tenWalls().coat(0, 0, 11, LIME, n));
    }

    /** Of 12, 11, 1, 4, 5, .. strips; the first one on LATH, the third one on STONE, the last one of one strip. */
    private static Stuccohand tenWalls() {
        Stuccohand x = new Stuccohand();
        for (int i = 0; i < 10; i++) {
            x.wall(i == 0 ? 12 : i == 9 ? 1 : i, i % 3);
        }
        return x;
    }

    private static void coatReturns() {
        check.says(6, "Returns on how many strips it is cracked at once.");
        for (int count = 1; count <= 12; count++) {
            check.due("bonds on all of " + count, 0, Check.withWall(12, Stuccohand.LATH).coat(0, 0, count - 1, LIME, 10));
            check.due("on none of " + count, count, Check.withWall(12, Stuccohand.LATH).coat(0, 12 - count, 11, LIME, 11));
        }
        Stuccohand x = Check.withWall(4, Stuccohand.BRICK);
        x.coat(0, 0, 0, LIME, 1);
        x.pass(1);
        check.due("by its edge alone", 1, x.coat(0, 1, 3, LIME, 15));
        Stuccohand y = Check.withWall(4, Stuccohand.BRICK);
        y.coat(0, 0, 0, LIME, 1);
        y.pass(1);
        check.due("by its edge and its shrink, each strip once", 3, y.coat(0, 1, 3, LIME, 16));
        Stuccohand z = Check.withWall(3, Stuccohand.STONE);
        z.coat(0, 0, 2, CEMENT, 20);
        z.pass(12);
        check.due("not the cracks of the coat below", 0, z.coat(0, 0, 2, LIME, 5));
        Stuccohand beside = Check.withWall(3, Stuccohand.BRICK);
        beside.coat(0, 0, 0, GAUGED, 11);
        beside.coat(0, 2, 2, GAUGED, 11);
        check.due("not the cracked ones of strips that were not told", 0, beside.coat(0, 1, 1, LIME, 1));
        Stuccohand later = Check.withWall(1, Stuccohand.STONE);
        later.weather(50, 20);
        check.due("not what cracks when it dries", 0, later.coat(0, 0, 0, CEMENT, 2));
    }

    private static void coatThrows() {
        check.says(6, "Throws `IndexOutOfBoundsException` if there is no such wall or strip");
        Stuccohand x = Check.withWall(3, Stuccohand.LATH);
        check.fails("no wall, and all else wrong", INDEX, () -> x.coat(1, 3, -1, 4, 21));
        check.fails("no strip, to ahead of from", INDEX, () -> x.coat(0, 3, 0, LIME, 1));
        check.fails("to -1, ahead of from", INDEX, () -> x.coat(0, 0, -1, LIME, 1));
        check.fails("no strip, and thick 0", INDEX, () -> x.coat(0, 0, 3, LIME, 0));
        check.fails("no strip, and refused", INDEX, () -> x.coat(0, 0, 3, CEMENT, 1));
        check.says(6, "Throws `IllegalArgumentException` if to is ahead of from, or plaster or thick is out of range");
        check.fails("to ahead of from, and refused", ARGUMENT, () -> x.coat(0, 1, 0, CEMENT, 1));
        check.fails("plaster -1", ARGUMENT, () -> x.coat(0, 0, 0, -1, 1));
        check.fails("plaster 4", ARGUMENT, () -> x.coat(0, 0, 0, 4, 1));
        check.fails("thick 0, and refused", ARGUMENT, () -> x.coat(0, 0, 0, CEMENT, 0));
        check.fails("thick 21, and refused", ARGUMENT, () -> x.coat(0, 0, 0, CEMENT, 21));
        check.says(6, "Throws `IllegalStateException` if it is refused, or a strip has 6 coats");
        check.fails("harder than the background", STATE, () -> x.coat(0, 0, 0, GYPSUM, 1));
        for (int i = 1; i <= 6; i++) {
            check.due("coat " + i, 0, x.coat(0, 1, 1, LIME, 1));
            check.fails("on a wet one", STATE, () -> x.coat(0, 1, 1, LIME, 1));
            x.pass(1);
        }
        check.fails("a seventh one", STATE, () -> x.coat(0, 1, 1, LIME, 1));
        check.fails("a seventh one on the strip in the middle", STATE, () -> x.coat(0, 0, 2, LIME, 1));
        check.fails("a seventh one, too thick", ARGUMENT, () -> x.coat(0, 1, 1, LIME, 21));
        check.due("six are left", 6, x.coatsAnew(0, 1));
        check.due("none came beside them", 0, x.coatsAnew(0, 0) + x.coatsAnew(0, 2));
        x.strike(0, 1);
        check.due("five, and a sixth one again", 0, x.coat(0, 1, 1, LIME, 1));
    }

    private static void scratch() {
        check.says(7, "`wall`: a wall");
        check.range("wall", 0, 9, INDEX, n -> coatedWalls().scratch(n, 0, 0));
        check.says(7, "`from`: a strip");
        check.range("from", 0, 11, INDEX, n -> coatedWalls().scratch(0, n, 11));
        check.says(7, "`to`: a strip not ahead of it");
        check.range("to", 0, 11, INDEX, n -> coatedWalls().scratch(0, 0, n));
        check.answers("to as from", () -> coatedWalls().scratch(0, 5, 5));
        check.fails("to ahead of from by one", ARGUMENT, () -> coatedWalls().scratch(0, 5, 4));
        check.says(7, "Returns how many were not scratched.");
        Stuccohand x = coatedWalls();
        check.due("one of one", 1, x.scratch(0, 3, 3));
        check.due("none of one", 0, x.scratch(0, 3, 3));
        check.due("all but one", 2, x.scratch(0, 2, 4));
        check.due("all but three", 9, x.scratch(0, 0, 11));
        check.due("none of all", 0, x.scratch(0, 0, 11));
        for (int strip = 0; strip < 12; strip++) {
            check.due("scratched is strip " + strip, 1, x.ofCoat(0, strip, 0, 5));
        }
        check.due("twelve at once", 12, coatedWalls().scratch(0, 0, 11));
        x.strike(0, 3);
        x.coat(0, 3, 3, LIME, 1);
        check.due("one that is new today", 1, x.scratch(0, 0, 11));
    }

    private static Stuccohand coatedWalls() {
        Stuccohand x = tenWalls();
        x.coat(0, 0, 11, LIME, 1);
        x.coat(9, 0, 0, LIME, 1);
        return x;
    }

    private static void scratchThrows() {
        check.says(7, "Throws `IndexOutOfBoundsException` if there is no such wall or strip");
        Stuccohand x = Check.withWall(3, Stuccohand.LATH);
        check.fails("no wall, to ahead of from", INDEX, () -> x.scratch(1, 1, 0));
        check.fails("no strip from", INDEX, () -> x.scratch(0, 3, 3));
        check.fails("no strip from, to ahead of it", INDEX, () -> x.scratch(0, 3, 0));
        check.fails("no strip to", INDEX, () -> x.scratch(0, 0, 3));
        check.fails("no strip -1", INDEX, () -> x.scratch(0, 0, -1));
        check.says(7, "Throws `IllegalArgumentException` if to is ahead of from");
        check.fails("to ahead of from, and no coats", ARGUMENT, () -> x.scratch(0, 2, 1));
        check.says(7, "Throws `IllegalStateException` if a strip has no coat, or its uppermost one was laid on another day");
        check.fails("no coats", STATE, () -> x.scratch(0, 1, 1));
        x.coat(0, 0, 1, LIME, 1);
        check.fails("the last one has none", STATE, () -> x.scratch(0, 0, 2));
        check.due("and no other one is scratched", 0, x.ofCoat(0, 0, 0, 5) + x.ofCoat(0, 1, 0, 5));
        x.strike(0, 0);
        check.fails("the first one has none any more", STATE, () -> x.scratch(0, 0, 1));
        x.pass(1);
        check.fails("of yesterday", STATE, () -> x.scratch(0, 1, 1));
        x.coat(0, 0, 0, LIME, 1);
        x.coat(0, 2, 2, LIME, 1);
        check.fails("the one in the middle of yesterday", STATE, () -> x.scratch(0, 0, 2));
        check.due("and no other one is scratched then", 0, x.ofCoat(0, 0, 0, 5) + x.ofCoat(0, 2, 0, 5));
        check.due("of today", 2, x.scratch(0, 0, 0) + x.scratch(0, 2, 2));
    }

    private static void strike() {
        check.says(8, "`wall`: a wall");
        check.range("wall", 0, 9, INDEX, n -> coatedWalls().strike(n, 0));
        check.says(8, "`strip`: a strip");
        check.range("strip of 12", 0, 11, INDEX, n -> coatedWalls().strike(0, n));
        check.range("strip of 1", 0, 0, INDEX, n -> coatedWalls().strike(9, n));
        check.says(8, "Returns how many it has left.");
        Stuccohand x = Check.withWall(2, Stuccohand.LATH);
        for (int i = 0; i < 6; i++) {
            x.coat(0, 0, 1, LIME, i + 1);
            x.pass(5);
        }
        for (int left = 5; left >= 0; left--) {
            check.due(left + " left", left, x.strike(0, 0));
            check.due("found again", left, x.coatsAnew(0, 0));
            int top = left - 1;
            if (left > 0) {
                check.due("the one below is left", left, x.ofCoat(0, 0, top, 1));
                check.due("dry as it was", 1, x.ofCoat(0, 0, top, 3));
            }
            check.fails("the struck one is gone", INDEX, () -> x.ofCoat(0, 0, top + 1, 0));
        }
        check.due("six on the other strip", 6, x.coatsAnew(0, 1));
        check.due("the uppermost one, not the lowest", 6, x.ofCoat(0, 1, 5, 1));
        check.says(8, "Throws `IndexOutOfBoundsException` if there is no such wall or strip");
        check.fails("no wall", INDEX, () -> x.strike(1, 0));
        check.fails("wall -1, no strip", INDEX, () -> x.strike(-1, 2));
        check.fails("no strip", INDEX, () -> x.strike(0, 2));
        check.fails("strip -1", INDEX, () -> x.strike(0, -1));
        check.says(8, "Throws `IllegalStateException` if it has none");
        check.fails("none any more", STATE, () -> x.strike(0, 0));
        check.fails("never one", STATE, () -> Check.withWall(1, 0).strike(0, 0));
        check.due("none still", 0, x.coatsAnew(0, 0));
    }

    private static void pass() {
        check.says(9, "`days`: 1 to 100");
        check.range("days", 1, 100, ARGUMENT, n -> new Stuccohand().pass(n));
        check.due("80 points of lime in a hundred days", 1, limedOne().pass(80));
        check.due("80 points of lime in 79 days", 0, limedOne().pass(79));
        check.says(9, "Returns how many coats came to be dry.");
        check.due("none on no walls", 0, new Stuccohand().pass(1));
        Stuccohand x = new Stuccohand();
        for (int i = 0; i < 10; i++) {
            x.wall(12, Stuccohand.LATH);
        }
        check.due("none on bare walls", 0, x.pass(1));
        for (int i = 0; i < 10; i++) {
            x.coat(i, 0, 11, LIME, 1);
        }
        check.due("all that there may be", 120, x.pass(1));
        check.due("none of the dry ones", 0, x.pass(100));
        x.coat(9, 11, 11, LIME, 1);
        check.due("one", 1, x.pass(100));
        check.says(9, "Throws `IllegalArgumentException` if days is out of range");
        check.fails("no day", ARGUMENT, () -> x.pass(0));
        check.fails("a day back", ARGUMENT, () -> x.pass(-1));
        check.fails("101 days", ARGUMENT, () -> x.pass(101));
        check.says(9, "Throws `IllegalStateException` if it would be above 2000");
        for (int last = 0; last <= 100; last++) {
            Stuccohand late = onDay(1900 + last);
            int left = 100 - last;
            check.fails("the day " + (1900 + last) + ", 101 days", ARGUMENT, () -> late.pass(101));
            check.fails("the day " + (1900 + last) + ", no day", ARGUMENT, () -> late.pass(0));
            if (left < 100) {
                check.fails("the day " + (1900 + last) + ", a day more than left", STATE, () -> late.pass(left + 1));
            }
            if (left > 0) {
                check.answers("the day " + (1900 + last) + ", all days left", () -> late.pass(left));
            }
            check.fails("the day 2000, a day", STATE, () -> late.pass(1));
            check.fails("the day 2000, a hundred", STATE, () -> late.pass(100));
        }
    }

    private static Stuccohand limedOne() {
        Stuccohand x = Check.withWall(1, Stuccohand.LATH);
        x.weather(0, 0);
        x.coat(0, 0, 0, LIME, 20);
        return x;
    }

    private static Stuccohand onDay(int day) {
        Stuccohand x = new Stuccohand();
        for (int left = day; left > 0; left -= Math.min(left, 100)) {
            x.pass(Math.min(left, 100));
        }
        return x;
    }

    private static void ofCoat() {
        check.says(10, "`wall`: a wall");
        check.range("wall", 0, 9, INDEX, n -> coatedWalls().ofCoat(n, 0, 0, 0));
        check.says(10, "`strip`: a strip");
        check.range("strip", 0, 11, INDEX, n -> coatedWalls().ofCoat(0, n, 0, 0));
        check.says(10, "`coat`: 0 for the lowest one");
        Stuccohand x = sixCoats();
        check.range("coat of 6", 0, 5, INDEX, n -> x.ofCoat(0, 0, n, 1));
        check.fails("coat 0 of none", INDEX, () -> x.ofCoat(0, 1, 0, 1));
        for (int coat = 0; coat < 6; coat++) {
            check.due("mm of coat " + coat, 10 - coat, x.ofCoat(0, 0, coat, 1));
            check.due("day of coat " + coat, 20 * coat, x.ofCoat(0, 0, coat, 2));
        }
        check.says(10, "Throws `IndexOutOfBoundsException` if there is no such wall, strip or coat");
        check.fails("no wall, and what 6", INDEX, () -> x.ofCoat(1, 0, 0, 6));
        check.fails("no strip, and what 6", INDEX, () -> x.ofCoat(0, 2, 0, 6));
        check.fails("no coat, and what 6", INDEX, () -> x.ofCoat(0, 0, 6, 6));
        check.fails("no coat on a bare strip, and what -1", INDEX, () -> x.ofCoat(0, 1, 0, -1));
        check.says(10, "Throws `IllegalArgumentException` if what is out of range");
        check.range("what", 0, 5, ARGUMENT, n -> x.ofCoat(0, 0, 0, n));
    }

    /** Of lime, 10 to 5 mm, a coat in 20 days, on the first of two strips; the first and the last one bond. */
    private static Stuccohand sixCoats() {
        Stuccohand x = Check.withWall(2, Stuccohand.LATH);
        for (int i = 0; i < 6; i++) {
            x.coat(0, 0, 0, LIME, 10 - i);
            x.pass(20);
        }
        return x;
    }

    private static void ofCoatNumbers() {
        check.says(10, "`what`: 0 the plaster; 1 millimetres; 2 the day on which it was laid; 3 whether it is dry, 1 or 0;"
                + " 4 whether it is cracked, 1 or 0; 5 whether it was scratched, 1 or 0");
        for (int bits = 0; bits < 8; bits++) {
            Stuccohand x = Check.withWall(1, Stuccohand.BRICK);
            boolean dry = (bits & 1) == 1, cracked = (bits & 2) == 2, scratched = (bits & 4) == 4;
            x.pass(9);
            x.coat(0, 0, 0, GAUGED, cracked ? 11 : 10);
            if (scratched) {
                x.scratch(0, 0, 0);
            }
            x.pass(dry ? 7 : 1);
            int[] dues = {GAUGED, cracked ? 11 : 10, 9, dry ? 1 : 0, cracked ? 1 : 0, scratched ? 1 : 0};
            for (int what = 0; what < 6; what++) {
                check.due("what " + what + " of " + bits, dues[what], x.ofCoat(0, 0, 0, what));
            }
        }
        check.says(10, "Returns the number.");
        for (int plaster = 0; plaster < 4; plaster++) {
            for (int thick = 1; thick <= 20; thick++) {
                Stuccohand x = onDay(thick == 20 ? 2000 : thick);
                x.wall(1, Stuccohand.STONE);
                x.coat(0, 0, 0, plaster, thick);
                check.due("the plaster", plaster, x.ofCoat(0, 0, 0, 0));
                check.due("millimetres", thick, x.ofCoat(0, 0, 0, 1));
                check.due("the day", thick == 20 ? 2000 : thick, x.ofCoat(0, 0, 0, 2));
            }
        }
    }

    private static void coatsAnew() {
        check.says(11, "`wall`: a wall");
        check.range("wall", 0, 9, INDEX, n -> tenWalls().coatsAnew(n, 0));
        check.says(11, "`strip`: a strip");
        check.range("strip of 12", 0, 11, INDEX, n -> tenWalls().coatsAnew(0, n));
        check.range("strip of 1", 0, 0, INDEX, n -> tenWalls().coatsAnew(9, n));
        check.says(11, "Returns how many.");
        Stuccohand x = Check.withWall(3, Stuccohand.LATH);
        x.wall(3, Stuccohand.LATH);
        for (int count = 0; count <= 6; count++) {
            int[] dues = {0, count, Math.min(1, count)};
            for (int strip = 0; strip < 3; strip++) {
                check.due(count + " coats, strip " + strip, dues[strip], x.coatsAnew(0, strip));
                check.due("the other wall", 0, x.coatsAnew(1, strip));
            }
            if (count < 6) {
                x.coat(0, 1, count == 0 ? 2 : 1, LIME, 1);
                x.pass(1);
            }
        }
        check.fails("a refused coat", STATE, () -> x.coat(0, 0, 1, LIME, 1));
        check.fails("a refused strike", STATE, () -> x.strike(0, 0));
        check.due("none by a refused coat", 0, x.coatsAnew(0, 0));
        check.due("six, with a refused coat", 6, x.coatsAnew(0, 1));
        for (int left = 5; left >= 0; left--) {
            x.strike(0, 1);
            check.due(left + " left", left, x.coatsAnew(0, 1));
        }
        check.due("laid again", 1, laidAgain(x));
        check.says(11, "Throws `IndexOutOfBoundsException` if there is no such wall or strip");
        check.fails("no wall", INDEX, () -> x.coatsAnew(2, 0));
        check.fails("wall -1", INDEX, () -> x.coatsAnew(-1, 0));
        check.fails("no strip", INDEX, () -> x.coatsAnew(1, 3));
        check.fails("strip -1", INDEX, () -> x.coatsAnew(1, -1));
    }

    private static int laidAgain(Stuccohand x) {
        x.coat(0, 1, 1, LIME, 1);
        return x.coatsAnew(0, 1);
    }

    private static void text() {
        check.says(12, "`wall`: a wall");
        check.range("wall", 0, 9, INDEX, n -> coatedWalls().text(n, 0, 0, 0));
        check.says(12, "`strip`: a strip");
        check.range("strip", 0, 11, INDEX, n -> coatedWalls().text(0, n, 0, 0));
        check.says(12, "`coat`: 0 for the lowest one");
        Stuccohand x = sixCoats();
        check.range("coat of 6", 0, 5, INDEX, n -> x.text(0, 0, n, 0));
        check.due("the lowest", "lime 10mm dry", Check.textOf(x, 0, 0, 0));
        check.due("the next one", "lime 9mm dry cracked", Check.textOf(x, 0, 0, 1));
        check.due("the uppermost", "lime 5mm dry", Check.textOf(x, 0, 0, 5));
        check.says(12, "`place`: from 0");
        check.due("place 0", 'l', x.text(0, 0, 0, 0));
        check.fails("place -1", INDEX, () -> x.text(0, 0, 0, -1));
        check.fails("a place far below", INDEX, () -> x.text(0, 0, 0, FAR_BELOW));
        check.says(12, "Returns the sign; a 0 behind the last one.");
        check.due("the last sign", 'y', x.text(0, 0, 0, 12));
        check.due("behind the last one", (char) 0, x.text(0, 0, 0, 13));
        check.due("the last sign of a longer one", 'd', x.text(0, 0, 1, 19));
        check.due("behind the longer one", (char) 0, x.text(0, 0, 1, 20));
        check.due("far behind", (char) 0, x.text(0, 0, 0, FAR_ABOVE));
        texts();
        check.says(12, "Throws `IndexOutOfBoundsException` if there is no such wall, strip or coat, or place is below 0");
        check.fails("no wall", INDEX, () -> x.text(1, 0, 0, 0));
        check.fails("no strip", INDEX, () -> x.text(0, 2, 0, 0));
        check.fails("no coat", INDEX, () -> x.text(0, 0, 6, 0));
        check.fails("no coat on a bare strip", INDEX, () -> x.text(0, 1, 0, 0));
        check.fails("coat -1", INDEX, () -> x.text(0, 0, -1, 0));
        check.fails("place -1 of the uppermost", INDEX, () -> x.text(0, 0, 5, -1));
    }

    private static void texts() {
        String[] words = {"lime", "gauged", "gypsum", "cement"};
        for (int plaster = 0; plaster < 4; plaster++) {
            for (int thick = 1; thick <= 20; thick++) {
                Stuccohand x = Check.withWall(1, Stuccohand.STONE);
                boolean cracked = x.coat(0, 0, 0, plaster, thick) == 1;
                String wet = words[plaster] + " " + thick + "mm";
                check.due("wet", wet + (cracked ? " cracked" : ""), Check.textOf(x, 0, 0, 0));
                x.pass(100);
                check.due("dry", wet + " dry" + (cracked ? " cracked" : ""), Check.textOf(x, 0, 0, 0));
            }
        }
    }
}
