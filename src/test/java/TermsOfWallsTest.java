/** What the document is about 512 calls, and each sentence of its Terms on walls and coats, at the edges that it names. */
public final class TermsOfWallsTest {
    private static final int LIME = 0, GAUGED = 1, GYPSUM = 2, CEMENT = 3;
    private static final int[] NEEDS = {4, 3, 2, 3};
    private static final int[] SHRINKS = {2, 3, 0, 5};
    private static final String PLASTERS = "Plasters are known by their words, numbered: 0 \"lime\", 1 \"gauged\", 2 \"gypsum\","
            + " 3 \"cement\", with how hard they are, 1, 2, 3, 4, how many points they need to dry, for each millimetre,"
            + " 4, 3, 2, 3, and what they shrink, for each millimetre, 2, 3, 0, 5.";
    private static final String BONDS = "On each strip it bonds, if what it shrinks, times its millimetres, is at most"
            + " what is below keys: a background as told; a coat 10, one that was scratched 25; otherwise it is cracked there.";
    private static final String EDGE = "A strip that gets a coat has an edge, if a neighbour of it on the wall has as many"
            + " coats as it has behind that, the uppermost one laid on an earlier day, of the same plaster: its new coat is"
            + " cracked, unless a joint is planned between both.";
    private static final String POINTS = "Each day that goes by brings points to each uppermost coat that is not dry:"
            + " the warmth, 10 at first, divided by 2, rounded down, and the wind, 0 at first, less what the wall is damp,"
            + " 0 at first; but at least 1.";
    private static final Check check = new Check("TermsOfWallsTest");

    public static void main(String[] args) {
        callsOfCoatsAndStrikes();
        callsThatAreLast();
        days();
        numbersOfWalls();
        stripsOfWalls();
        plasterWords();
        plasterHardness();
        plasterNeeds();
        plasterShrinks();
        backgrounds();
        coatIsLaid();
        coatIsRefusedAsHarder();
        coatIsRefusedOnWet();
        coatBondsOnGround();
        coatBondsOnCoat();
        scratchDay();
        edgeByNumber();
        edgeByDay();
        edgeByPlaster();
        edgeByNeighbour();
        edgeAndJoint();
        edgeWithinOneCoat();
        pointsOfADay();
        pointsAtFirst();
        pointsOfTheUppermost();
        dryness();
        heat();
        check.finish();
    }

    /** The first call is wall(), all others go to the log: the longest one that there may be. */
    private static void callsOfCoatsAndStrikes() {
        check.says("An object is used for at most 512 calls after it has been made; what later calls answer is free.");
        Stuccohand x = Check.withWall(1, Stuccohand.LATH);
        for (int call = 2; call <= 510; call += 2) {
            check.due("call " + call + ", a coat", 0, x.coat(0, 0, 0, LIME, 1));
            check.due("call " + (call + 1) + ", a strike", 0, x.strike(0, 0));
        }
        check.due("call 512, a coat", 1, x.coat(0, 0, 0, LIME, 11));
        Stuccohand y = Check.withWall(1, Stuccohand.LATH);
        y.coat(0, 0, 0, GAUGED, 1);
        y.pass(1);
        for (int call = 4; call <= 510; call += 2) {
            y.coat(0, 0, 0, LIME, 1);
            y.strike(0, 0);
        }
        check.due("call 512, a strike", 0, y.strike(0, 0));
    }

    private static void callsThatAreLast() {
        check.due("the last call, wall", 1, used(511).wall(12, 2));
        check.due("the last call, pass", 1, used(511).pass(100));
        check.due("the last call, profile", 1, used(511).profile(100));
        check.due("the last call, patch", 1, used(511).patch(-1L));
        check.due("the last call, strike", 0, used(511).strike(0, 0));
        check.due("the last call, coatsAnew", 1, used(511).coatsAnew(0, 0));
        check.due("the last call, text", 'l', used(511).text(0, 0, 0, 0));
        check.due("the last call, depth", 2, used(511).depth(0, 1));
        check.due("the last call, ofCell", 0, used(511).ofCell(47, 0));
        check.due("the last call, bill", 2000, used(511).bill(0, 2, 100));
        check.fails("the last call, refused", Check.STATE, () -> used(511).coat(0, 0, 0, LIME, 1));
    }

    /** An object with a wall, a coat, a profile and a patch, after so many calls; the rest were refused. */
    private static Stuccohand used(int calls) {
        Stuccohand x = Check.withWall(1, Stuccohand.LATH);
        x.coat(0, 0, 0, LIME, 20);
        x.profile(1);
        x.patch(-1L);
        for (int call = 5; call <= calls; call++) {
            check.fails("call " + call, call % 2 == 0 ? Check.STATE : Check.INDEX,
                    call % 2 == 0 ? () -> x.coat(0, 0, 0, LIME, 1) : () -> x.strike(0, 1));
        }
        return x;
    }

    private static void days() {
        check.says("Days are counted from 0, up to 2000.");
        Stuccohand x = Check.withWall(2, Stuccohand.LATH);
        x.coat(0, 0, 0, LIME, 1);
        check.due("the first day", 0, x.ofCoat(0, 0, 0, 2));
        for (int i = 0; i < 20; i++) {
            check.answers("a hundred days, " + i, () -> x.pass(100));
        }
        x.coat(0, 1, 1, GAUGED, 1);
        check.due("the last day", 2000, x.ofCoat(0, 1, 0, 2));
        check.fails("the day 2001", Check.STATE, () -> x.pass(1));
        x.strike(0, 1);
        x.coat(0, 1, 1, GAUGED, 1);
        check.due("still the last day", 2000, x.ofCoat(0, 1, 0, 2));
    }

    private static void numbersOfWalls() {
        check.says("Walls are numbered from 0, up to 10, each of strips, 1 to 12, on LATH, BRICK or STONE.");
        Stuccohand x = new Stuccohand();
        check.fails("no wall: wall 0", Check.INDEX, () -> x.damp(0, 0));
        for (int i = 0; i < 10; i++) {
            check.due("wall " + i, i, x.wall(1, i % 3));
            int next = i + 1;
            check.answers("wall " + i + " is there", () -> x.damp(next - 1, 0));
            check.fails("wall " + next + " is not", Check.INDEX, () -> x.damp(next, 0));
        }
        check.fails("a wall more", Check.STATE, () -> x.wall(1, 0));
        check.fails("and none came", Check.INDEX, () -> x.damp(10, 0));
    }

    private static void stripsOfWalls() {
        for (int strips = 1; strips <= 12; strips++) {
            Stuccohand x = Check.withWall(strips, Stuccohand.BRICK);
            int count = strips;
            check.due("the last of " + count, 0, x.coatsAnew(0, count - 1));
            check.fails("one more than " + count, Check.INDEX, () -> x.coatsAnew(0, count));
        }
        check.fails("no strip at all", Check.ARGUMENT, () -> new Stuccohand().wall(0, 0));
        check.fails("13 strips", Check.ARGUMENT, () -> new Stuccohand().wall(13, 0));
        check.fails("a ground ahead of LATH", Check.ARGUMENT, () -> new Stuccohand().wall(1, Stuccohand.LATH - 1));
        check.fails("a ground behind STONE", Check.ARGUMENT, () -> new Stuccohand().wall(1, Stuccohand.STONE + 1));
    }

    private static void plasterWords() {
        check.says(PLASTERS);
        Stuccohand x = Check.withWall(4, Stuccohand.STONE);
        String[] words = {"lime", "gauged", "gypsum", "cement"};
        for (int plaster = 0; plaster < 4; plaster++) {
            x.coat(0, plaster, plaster, plaster, 1);
            check.due("the word of " + plaster, words[plaster] + " 1mm", Check.textOf(x, 0, plaster, 0));
        }
        check.fails("a plaster ahead of lime", Check.ARGUMENT, () -> x.coat(0, 0, 0, -1, 1));
        check.fails("a plaster behind cement", Check.ARGUMENT, () -> x.coat(0, 0, 0, 4, 1));
    }

    private static void plasterHardness() {
        for (int below = 0; below < 4; below++) {
            for (int plaster = 0; plaster < 4; plaster++) {
                Stuccohand x = Check.withWall(1, Stuccohand.STONE);
                x.coat(0, 0, 0, below, 1);
                x.pass(1);
                int kind = plaster;
                Object got = Check.outcome(() -> x.coat(0, 0, 0, kind, 1));
                check.due(plaster + " on " + below, plaster > below, Check.isRefusal(got));
            }
        }
    }

    private static void plasterNeeds() {
        for (int plaster = 0; plaster < 4; plaster++) {
            for (int thick = 1; thick <= 20; thick++) {
                Stuccohand x = Check.withWall(1, Stuccohand.STONE);
                x.weather(0, 0);
                x.coat(0, 0, 0, plaster, thick);
                check.due(thick + " mm of " + plaster + ", days", NEEDS[plaster] * thick, daysToDry(x));
            }
        }
    }

    private static int daysToDry(Stuccohand x) {
        for (int day = 1; day <= 100; day++) {
            if (x.pass(1) > 0) {
                return day;
            }
        }
        return -1;
    }

    private static void plasterShrinks() {
        for (int plaster = 0; plaster < 4; plaster++) {
            for (int thick = 1; thick <= 20; thick++) {
                Stuccohand x = Check.withWall(1, Stuccohand.STONE);
                boolean bonds = SHRINKS[plaster] * thick <= 10;
                check.due(thick + " mm of " + plaster + " on what keys 10", bonds ? 0 : 1, x.coat(0, 0, 0, plaster, thick));
            }
        }
    }

    private static void backgrounds() {
        check.says("What a background is: LATH is 2 hard and keys 20, BRICK 3 and 30, STONE 4 and 10.");
        int[] hard = {2, 3, 4};
        for (int ground = 0; ground < 3; ground++) {
            for (int plaster = 0; plaster < 4; plaster++) {
                int kind = plaster;
                Stuccohand x = Check.withWall(1, ground);
                Object got = Check.outcome(() -> x.coat(0, 0, 0, kind, 1));
                check.due(plaster + " on the ground " + ground, plaster + 1 > hard[ground], Check.isRefusal(got));
            }
        }
        int[][] lasts = {{10, 6}, {15, 10}, {5, 3}};
        for (int ground = 0; ground < 3; ground++) {
            for (int plaster = LIME; plaster <= GAUGED; plaster++) {
                int most = lasts[ground][plaster];
                String call = "on the ground " + ground + ", " + plaster + ", mm ";
                check.due(call + most, 0, Check.withWall(1, ground).coat(0, 0, 0, plaster, most));
                check.due(call + (most + 1), 1, Check.withWall(1, ground).coat(0, 0, 0, plaster, most + 1));
            }
        }
    }

    private static void coatIsLaid() {
        check.says("A coat is laid on the strips of a wall from one to another one, in whole millimetres, 1 to 20, today.");
        for (int from = 0; from < 12; from++) {
            for (int to = from; to < 12; to++) {
                Stuccohand x = Check.withWall(12, Stuccohand.LATH);
                x.coat(0, from, to, GAUGED, 1);
                for (int strip = 0; strip < 12; strip++) {
                    int coats = strip >= from && strip <= to ? 1 : 0;
                    check.due("strip " + strip + ", from " + from + " to " + to, coats, x.coatsAnew(0, strip));
                }
            }
        }
        Stuccohand x = Check.withWall(3, Stuccohand.LATH);
        check.fails("0 mm", Check.ARGUMENT, () -> x.coat(0, 0, 0, LIME, 0));
        check.fails("21 mm", Check.ARGUMENT, () -> x.coat(0, 0, 0, LIME, 21));
        x.coat(0, 0, 0, LIME, 1);
        x.pass(1);
        x.coat(0, 1, 1, GAUGED, 20);
        check.due("1 mm", 1, x.ofCoat(0, 0, 0, 1));
        check.due("20 mm", 20, x.ofCoat(0, 1, 0, 1));
        check.due("laid on the day 0", 0, x.ofCoat(0, 0, 0, 2));
        check.due("laid today", 1, x.ofCoat(0, 1, 0, 2));
    }

    private static void coatIsRefusedAsHarder() {
        check.says("It is refused, if on one of these strips what is below is softer than it, or is not dry.");
        for (int soft = 0; soft < 4; soft++) {
            Stuccohand x = Check.withWall(4, Stuccohand.BRICK);
            x.coat(0, 0, 3, GYPSUM, 1);
            x.pass(1);
            x.strike(0, soft);
            x.coat(0, soft, soft, GAUGED, 1);
            x.pass(1);
            check.fails("softer on strip " + soft + " alone", Check.STATE, () -> x.coat(0, 0, 3, GYPSUM, 1));
            for (int strip = 0; strip < 4; strip++) {
                check.due("no coat more on strip " + strip, 1, x.coatsAnew(0, strip));
            }
            check.answers("as hard on strip " + soft + ", harder on others", () -> x.coat(0, 0, 3, GAUGED, 1));
        }
        Stuccohand x = Check.withWall(4, Stuccohand.LATH);
        x.coat(0, 0, 2, GAUGED, 1);
        x.pass(1);
        check.fails("harder than the background alone", Check.STATE, () -> x.coat(0, 3, 3, GYPSUM, 1));
        check.answers("as hard as the background", () -> x.coat(0, 3, 3, GAUGED, 1));
    }

    private static void coatIsRefusedOnWet() {
        for (int wet = 0; wet < 4; wet++) {
            Stuccohand x = Check.withWall(4, Stuccohand.BRICK);
            x.weather(0, 0);
            x.coat(0, wet, wet, LIME, 1);
            x.pass(3);
            check.fails("a point short on strip " + wet + " alone", Check.STATE, () -> x.coat(0, 0, 3, LIME, 1));
            for (int strip = 0; strip < 4; strip++) {
                check.due("no coat more on strip " + strip, strip == wet ? 1 : 0, x.coatsAnew(0, strip));
            }
            int at = wet;
            check.fails("a point short on strip " + wet, Check.STATE, () -> x.coat(0, at, at, LIME, 1));
            x.pass(1);
            check.answers("dry on strip " + wet, () -> x.coat(0, 0, 3, LIME, 1));
        }
    }

    private static void coatBondsOnGround() {
        check.says(BONDS);
        int[][] equal = {{Stuccohand.LATH, LIME, 10}, {Stuccohand.BRICK, LIME, 15}, {Stuccohand.BRICK, GAUGED, 10},
            {Stuccohand.STONE, LIME, 5}, {Stuccohand.STONE, CEMENT, 2}};
        for (int[] row : equal) {
            for (int more = -1; more <= 1; more++) {
                Stuccohand x = Check.withWall(1, row[0]);
                String call = row[2] + more + " mm of " + row[1] + " on the ground " + row[0];
                check.due(call, more > 0 ? 1 : 0, x.coat(0, 0, 0, row[1], row[2] + more));
                check.due(call + ", cracked", more > 0 ? 1 : 0, x.ofCoat(0, 0, 0, 4));
            }
        }
        for (int ground = Stuccohand.BRICK; ground <= Stuccohand.STONE; ground++) {
            check.due("20 mm that do not shrink", 0, Check.withWall(1, ground).coat(0, 0, 0, GYPSUM, 20));
        }
    }

    private static void coatBondsOnCoat() {
        int[][] lasts = {{5, 12}, {3, 8}, {20, 20}, {2, 5}};
        for (int plaster = 0; plaster < 4; plaster++) {
            for (int scratched = 0; scratched < 2; scratched++) {
                int most = lasts[plaster][scratched];
                for (int thick = most; thick <= most + 1 && thick <= 20; thick++) {
                    Stuccohand x = onCement(scratched == 1);
                    String call = thick + " mm of " + plaster + " on a coat, scratched " + scratched;
                    check.due(call, thick > most ? 1 : 0, x.coat(0, 0, 0, plaster, thick));
                    check.due(call + ", cracked", thick > most ? 1 : 0, x.ofCoat(0, 0, 1, 4));
                    check.due(call + ", below", 0, x.ofCoat(0, 0, 0, 4));
                }
            }
        }
        Stuccohand x = Check.withWall(3, Stuccohand.STONE);
        x.coat(0, 0, 2, CEMENT, 1);
        x.scratch(0, 1, 1);
        x.pass(1);
        check.due("bonds on the scratched strip alone", 2, x.coat(0, 0, 2, LIME, 12));
        check.due("strip 0", 1, x.ofCoat(0, 0, 1, 4));
        check.due("strip 1", 0, x.ofCoat(0, 1, 1, 4));
        check.due("strip 2", 1, x.ofCoat(0, 2, 1, 4));
    }

    private static Stuccohand onCement(boolean scratched) {
        Stuccohand x = Check.withWall(1, Stuccohand.STONE);
        x.coat(0, 0, 0, CEMENT, 1);
        if (scratched) {
            x.scratch(0, 0, 0);
        }
        x.pass(1);
        return x;
    }

    private static void scratchDay() {
        check.says("To scratch the uppermost coats of strips is possible on the day on which they were laid alone.");
        Stuccohand x = Check.withWall(3, Stuccohand.BRICK);
        x.pass(1);
        x.coat(0, 0, 1, GAUGED, 1);
        check.due("on the day", 1, x.scratch(0, 0, 0));
        x.pass(1);
        check.fails("on the next day", Check.STATE, () -> x.scratch(0, 1, 1));
        check.fails("again on the next day", Check.STATE, () -> x.scratch(0, 0, 0));
        x.coat(0, 2, 2, GAUGED, 1);
        check.fails("one of two on the next day", Check.STATE, () -> x.scratch(0, 1, 2));
        check.due("that one is not scratched", 0, x.ofCoat(0, 1, 0, 5));
        check.due("nor the other one", 0, x.ofCoat(0, 2, 0, 5));
        x.coat(0, 1, 1, LIME, 1);
        check.due("a new uppermost one, on its day", 2, x.scratch(0, 1, 2));
        check.due("not the one below", 0, x.ofCoat(0, 1, 0, 5));
        x.strike(0, 1);
        check.fails("the one below, when uppermost again", Check.STATE, () -> x.scratch(0, 1, 1));
    }

    /** Two strips with so many coats of lime, those as high as one another of one day, each higher one a day later. */
    private static Stuccohand layered(int first, int second) {
        Stuccohand x = Check.withWall(2, Stuccohand.BRICK);
        for (int i = 0; i < Math.max(first, second); i++) {
            if (i < first && i < second) {
                x.coat(0, 0, 1, LIME, 1);
            } else {
                x.coat(0, i < first ? 0 : 1, i < first ? 0 : 1, LIME, 1);
            }
            x.pass(1);
        }
        return x;
    }

    private static void edgeByNumber() {
        check.says(EDGE);
        for (int own = 0; own < 6; own++) {
            for (int beside = 0; beside <= 6; beside++) {
                int edge = beside == own + 1 ? 1 : 0;
                String call = "a coat more than " + own + " beside " + beside;
                check.due(call, edge, layered(beside, own).coat(0, 1, 1, LIME, 1));
                check.due(call + ", the other side", edge, layered(own, beside).coat(0, 0, 0, LIME, 1));
            }
        }
    }

    private static void edgeByDay() {
        Stuccohand x = Check.withWall(3, Stuccohand.BRICK);
        x.coat(0, 0, 0, LIME, 1);
        check.due("on the same day", 0, x.coat(0, 1, 1, LIME, 1));
        x.pass(1);
        check.due("on the next day", 1, x.coat(0, 2, 2, LIME, 1));
        check.due("the new coat is cracked", 1, x.ofCoat(0, 2, 0, 4));
        check.due("the old one is not", 0, x.ofCoat(0, 1, 0, 4));
        Stuccohand wet = Check.withWall(2, Stuccohand.BRICK);
        wet.coat(0, 0, 0, LIME, 15);
        wet.pass(1);
        check.due("beside one that is not dry yet", 1, wet.coat(0, 1, 1, LIME, 1));
        Stuccohand anew = Check.withWall(2, Stuccohand.BRICK);
        anew.coat(0, 0, 0, LIME, 1);
        anew.pass(1);
        anew.strike(0, 0);
        anew.coat(0, 0, 0, LIME, 1);
        check.due("beside one struck off and laid anew today", 0, anew.coat(0, 1, 1, LIME, 1));
        Stuccohand upper = layered(2, 1);
        upper.strike(0, 0);
        upper.coat(0, 0, 0, LIME, 1);
        check.due("beside an uppermost one of today on an earlier one", 0, upper.coat(0, 1, 1, LIME, 1));
    }

    private static void edgeByPlaster() {
        for (int old = 0; old < 4; old++) {
            for (int plaster = 0; plaster < 4; plaster++) {
                Stuccohand x = Check.withWall(2, Stuccohand.STONE);
                x.coat(0, 0, 0, old, 1);
                x.pass(1);
                check.due(plaster + " beside " + old, old == plaster ? 1 : 0, x.coat(0, 1, 1, plaster, 1));
            }
        }
        Stuccohand x = Check.withWall(2, Stuccohand.BRICK);
        x.coat(0, 0, 1, GAUGED, 1);
        x.pass(1);
        x.coat(0, 0, 0, LIME, 1);
        x.pass(1);
        check.due("the uppermost one is of another plaster", 0, x.coat(0, 1, 1, GAUGED, 1));
        x.strike(0, 1);
        check.due("the uppermost one is of the same plaster", 1, x.coat(0, 1, 1, LIME, 1));
    }

    private static void edgeByNeighbour() {
        for (int old = 0; old < 12; old++) {
            for (int strip = 0; strip < 12; strip++) {
                if (strip != old) {
                    Stuccohand x = Check.withWall(12, Stuccohand.BRICK);
                    x.coat(0, old, old, LIME, 1);
                    x.pass(1);
                    int edge = Math.abs(strip - old) == 1 ? 1 : 0;
                    check.due("strip " + strip + ", an older one on " + old, edge, x.coat(0, strip, strip, LIME, 1));
                }
            }
        }
        Stuccohand x = Check.withWall(1, Stuccohand.BRICK);
        x.wall(1, Stuccohand.BRICK);
        x.coat(0, 0, 0, LIME, 1);
        x.pass(1);
        check.due("the last strip of a wall and the first one of the next", 0, x.coat(1, 0, 0, LIME, 1));
        Stuccohand between = Check.withWall(3, Stuccohand.BRICK);
        between.coat(0, 0, 0, LIME, 1);
        between.coat(0, 2, 2, LIME, 1);
        between.pass(1);
        check.due("between two older ones, one strip is cracked", 1, between.coat(0, 1, 1, LIME, 1));
    }

    private static void edgeAndJoint() {
        for (int joints = 0; joints < 16; joints++) {
            Stuccohand x = Check.withWall(5, Stuccohand.BRICK);
            for (int strip = 0; strip < 4; strip++) {
                if ((joints >> strip & 1) == 1) {
                    x.joint(0, strip);
                }
            }
            x.coat(0, 1, 1, LIME, 1);
            x.coat(0, 3, 3, LIME, 1);
            x.pass(1);
            int[] edges = {joints & 1, joints & 6, joints & 8};
            int[] whole = {1, 6, 8};
            for (int i = 0; i < 3; i++) {
                int cracked = edges[i] == whole[i] ? 0 : 1;
                check.due("strip " + 2 * i + " with the joints " + joints, cracked, x.coat(0, 2 * i, 2 * i, LIME, 1));
            }
        }
        Stuccohand x = Check.withWall(2, Stuccohand.BRICK);
        x.joint(0, 0);
        x.coat(0, 0, 0, LIME, 1);
        x.pass(1);
        check.due("a joint does not mend what does not bond", 1, x.coat(0, 1, 1, LIME, 16));
    }

    private static void edgeWithinOneCoat() {
        Stuccohand x = Check.withWall(12, Stuccohand.BRICK);
        x.coat(0, 11, 11, LIME, 1);
        x.pass(1);
        check.due("the last of the strips told has an edge", 1, x.coat(0, 0, 10, LIME, 1));
        check.due("strip 10", 1, x.ofCoat(0, 10, 0, 4));
        check.due("strip 9 is beside one of today", 0, x.ofCoat(0, 9, 0, 4));
        Stuccohand y = layered(1, 0);
        check.due("behind a coat on both the neighbour has one more", 0, y.coat(0, 0, 1, LIME, 1));
        Stuccohand z = layered(0, 1);
        check.due("likewise, the neighbour behind it", 0, z.coat(0, 0, 1, LIME, 1));
    }

    private static void pointsOfADay() {
        check.says(POINTS);
        int[][] rows = {{10, 0, 0, 5}, {11, 0, 0, 5}, {12, 0, 0, 6}, {0, 0, 0, 1}, {1, 0, 0, 1}, {2, 0, 0, 1}, {3, 0, 0, 1},
            {4, 0, 0, 2}, {5, 0, 0, 2}, {50, 20, 0, 45}, {49, 20, 0, 44}, {50, 20, 30, 15}, {49, 20, 30, 14}, {0, 0, 30, 1},
            {0, 20, 0, 20}, {0, 20, 18, 2}, {0, 20, 19, 1}, {0, 20, 20, 1}, {0, 20, 21, 1}, {0, 20, 30, 1}, {1, 1, 0, 1},
            {10, 0, 3, 2}, {10, 0, 4, 1}, {10, 0, 5, 1}, {10, 0, 6, 1}, {50, 0, 22, 3}, {50, 4, 30, 1}, {50, 7, 30, 2}};
        for (int[] row : rows) {
            for (int plaster = 0; plaster < 4; plaster++) {
                for (int thick = 1; thick <= 20; thick++) {
                    Stuccohand x = Check.withWall(1, Stuccohand.STONE);
                    x.weather(row[0], row[1]);
                    x.damp(0, row[2]);
                    x.coat(0, 0, 0, plaster, thick);
                    int days = (NEEDS[plaster] * thick + row[3] - 1) / row[3];
                    check.due("warmth " + row[0] + ", wind " + row[1] + ", damp " + row[2] + ", " + thick + " mm of "
                            + plaster, days, daysToDry(x));
                }
            }
        }
    }

    private static void pointsAtFirst() {
        Stuccohand x = Check.withWall(2, Stuccohand.STONE);
        x.coat(0, 0, 0, LIME, 5);
        x.coat(0, 1, 1, GYPSUM, 13);
        check.due("20 points in 3 days", 0, x.pass(3));
        check.due("20 points in 4 days", 1, x.pass(1));
        check.due("26 points in 5 days", 0, x.pass(1));
        check.due("26 points in 6 days", 1, x.pass(1));
    }

    private static void pointsOfTheUppermost() {
        Stuccohand x = Check.withWall(3, Stuccohand.BRICK);
        x.wall(2, Stuccohand.BRICK);
        check.due("no coat at all", 0, x.pass(1));
        x.weather(0, 0);
        x.coat(0, 0, 2, LIME, 1);
        x.coat(1, 1, 1, LIME, 1);
        x.pass(3);
        check.due("each uppermost one of each wall", 4, x.pass(1));
        check.due("none that is dry", 0, x.pass(1));
        x.coat(0, 1, 1, LIME, 1);
        check.due("the new one, not yet", 0, x.pass(3));
        check.due("its fourth day", 1, x.pass(1));
        check.due("dry", 1, x.ofCoat(0, 1, 1, 3));
        x.coat(0, 1, 1, LIME, 2);
        x.pass(7);
        x.strike(0, 1);
        x.coat(0, 1, 1, LIME, 2);
        check.due("points are not left by one that was struck off", 0, x.pass(7));
        check.due("its eighth day", 1, x.pass(1));
    }

    private static void dryness() {
        check.says("A coat is dry, when it has what it needs.");
        for (int plaster = 0; plaster < 4; plaster++) {
            Stuccohand x = Check.withWall(1, Stuccohand.STONE);
            x.weather(0, 0);
            x.coat(0, 0, 0, plaster, 20);
            check.due("no points", 0, x.ofCoat(0, 0, 0, 3));
            check.due("a point short", 0, x.pass(20 * NEEDS[plaster] - 1));
            check.due("a point short, told", 0, x.ofCoat(0, 0, 0, 3));
            check.due("what it needs", 1, x.pass(1));
            check.due("what it needs, told", 1, x.ofCoat(0, 0, 0, 3));
            Stuccohand y = Check.withWall(1, Stuccohand.STONE);
            y.coat(0, 0, 0, plaster, 20);
            check.due("more than it needs, at once", 1, y.pass(100));
            check.due("more than it needs, told", 1, y.ofCoat(0, 0, 0, 3));
        }
        Stuccohand sun = Check.withWall(1, Stuccohand.STONE);
        sun.weather(50, 20);
        sun.coat(0, 0, 0, LIME, 11);
        sun.damp(0, 30);
        check.due("44 points by 15, two days", 0, sun.pass(2));
        check.due("44 points by 15, three days", 1, sun.pass(1));
    }

    private static void heat() {
        check.says("A coat that comes to be dry with a warmth of 30 or more on that day is cracked, if it is of cement.");
        int[] warmths = {0, 29, 30, 31, 50};
        for (int warmth : warmths) {
            for (int plaster = 0; plaster < 4; plaster++) {
                Stuccohand x = Check.withWall(1, Stuccohand.STONE);
                x.weather(warmth, 20);
                x.coat(0, 0, 0, plaster, 1);
                x.pass(1);
                int cracked = warmth >= 30 && plaster == CEMENT ? 1 : 0;
                check.due("plaster " + plaster + " by a warmth of " + warmth, cracked, x.ofCoat(0, 0, 0, 4));
            }
        }
        int[][] rows = {{30, 29, 0}, {29, 30, 1}, {50, 0, 0}, {0, 50, 1}};
        for (int[] row : rows) {
            Stuccohand x = Check.withWall(1, Stuccohand.STONE);
            x.damp(0, 30);
            x.coat(0, 0, 0, CEMENT, 1);
            x.weather(row[0], 0);
            check.due("not dry ahead of the third day", 0, x.pass(2));
            check.due("nor cracked", 0, x.ofCoat(0, 0, 0, 4));
            x.weather(row[1], 0);
            check.due("dry on the third day", 1, x.pass(1));
            check.due("then " + row[1] + ", " + row[0] + " ahead of it", row[2], x.ofCoat(0, 0, 0, 4));
            x.weather(50, 0);
            x.pass(1);
            check.due("heat behind the day", row[2], x.ofCoat(0, 0, 0, 4));
        }
    }
}
