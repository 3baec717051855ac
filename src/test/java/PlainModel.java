import java.util.ArrayList;
import java.util.List;

/**
 * The document once more, written for the tests alone: day by day, tile by tile and cell by cell
 * where the program reckons, so that both seldom err alike.
 */
final class PlainModel {
    private static final String[] WORDS = {"lime", "gauged", "gypsum", "cement"};
    private static final int[] HARD = {1, 2, 3, 4};
    private static final int[] NEEDS = {4, 3, 2, 3};
    private static final int[] SHRINKS = {2, 3, 0, 5};
    private static final int[] GROUND_HARD = {2, 3, 4};
    private static final int[] GROUND_KEYS = {20, 30, 10};

    private static final class Coat {
        int plaster, thick, day, points;
        boolean dry, cracked, scratched;
    }

    private static final class Wall {
        int ground, damp;
        List<List<Coat>> strips = new ArrayList<>();
        boolean[] joints = new boolean[12];
    }

    private final List<Wall> walls = new ArrayList<>();
    private final List<List<Integer>> profiles = new ArrayList<>();
    private final int[] windows = new int[10];
    private final List<Integer> patchDays = new ArrayList<>();
    private final int[] patchOf = new int[48];
    private final int[] pigmentOf = new int[48];
    private final boolean[] seccoOf = new boolean[48];
    private int day, warmth = 10, wind;

    PlainModel() {
        java.util.Arrays.fill(patchOf, -1);
        java.util.Arrays.fill(pigmentOf, -1);
    }

    private static void index(boolean holds) {
        if (!holds) {
            throw new IndexOutOfBoundsException();
        }
    }

    private static void argument(boolean holds) {
        if (!holds) {
            throw new IllegalArgumentException();
        }
    }

    private static void state(boolean holds) {
        if (!holds) {
            throw new IllegalStateException();
        }
    }

    private static boolean in(int number, int least, int most) {
        return number >= least && number <= most;
    }

    private void isWall(int wall) {
        index(in(wall, 0, walls.size() - 1));
    }

    private void isStrip(int wall, int strip) {
        isWall(wall);
        index(in(strip, 0, walls.get(wall).strips.size() - 1));
    }

    private List<Coat> coats(int wall, int strip) {
        return walls.get(wall).strips.get(strip);
    }

    private static Coat last(List<Coat> coats) {
        return coats.get(coats.size() - 1);
    }

    int wall(int strips, int ground) {
        argument(in(strips, 1, 12) && in(ground, 0, 2));
        state(walls.size() < 10);
        Wall wall = new Wall();
        wall.ground = ground;
        for (int i = 0; i < strips; i++) {
            wall.strips.add(new ArrayList<>());
        }
        walls.add(wall);
        return walls.size() - 1;
    }

    int weather(int warmth, int wind) {
        argument(in(warmth, 0, 50) && in(wind, 0, 20));
        this.warmth = warmth;
        this.wind = wind;
        return 0;
    }

    int damp(int wall, int damp) {
        isWall(wall);
        argument(in(damp, 0, 30));
        int before = walls.get(wall).damp;
        walls.get(wall).damp = damp;
        return before;
    }

    boolean joint(int wall, int strip) {
        isStrip(wall, strip);
        index(strip != walls.get(wall).strips.size() - 1);
        boolean before = walls.get(wall).joints[strip];
        walls.get(wall).joints[strip] = true;
        return before;
    }

    int coat(int wall, int from, int to, int plaster, int thick) {
        isStrip(wall, from);
        isStrip(wall, to);
        argument(from <= to && in(plaster, 0, 3) && in(thick, 1, 20));
        Wall w = walls.get(wall);
        int[] keys = new int[12];
        for (int s = from; s <= to; s++) {
            List<Coat> coats = w.strips.get(s);
            state(coats.size() < 6);
            boolean bare = coats.isEmpty();
            int hard = bare ? GROUND_HARD[w.ground] : HARD[last(coats).plaster];
            state(hard >= HARD[plaster]);
            state(bare || last(coats).dry);
            keys[s] = bare ? GROUND_KEYS[w.ground] : last(coats).scratched ? 25 : 10;
        }
        for (int s = from; s <= to; s++) {
            Coat coat = new Coat();
            coat.plaster = plaster;
            coat.thick = thick;
            coat.day = day;
            coat.cracked = SHRINKS[plaster] * thick > keys[s];
            w.strips.get(s).add(coat);
        }
        int cracked = 0;
        for (int s = from; s <= to; s++) {
            Coat own = last(w.strips.get(s));
            for (int n = s - 1; n <= s + 1; n += 2) {
                if (n >= 0 && n < w.strips.size() && !w.joints[Math.min(s, n)]) {
                    List<Coat> beside = w.strips.get(n);
                    if (beside.size() == w.strips.get(s).size() && last(beside).day < day
                            && last(beside).plaster == plaster) {
                        own.cracked = true;
                    }
                }
            }
            cracked += own.cracked ? 1 : 0;
        }
        return cracked;
    }

    int scratch(int wall, int from, int to) {
        isStrip(wall, from);
        isStrip(wall, to);
        argument(from <= to);
        for (int s = from; s <= to; s++) {
            state(!coats(wall, s).isEmpty());
            state(last(coats(wall, s)).day == day);
        }
        int fresh = 0;
        for (int s = from; s <= to; s++) {
            fresh += last(coats(wall, s)).scratched ? 0 : 1;
            last(coats(wall, s)).scratched = true;
        }
        return fresh;
    }

    int strike(int wall, int strip) {
        isStrip(wall, strip);
        List<Coat> coats = coats(wall, strip);
        state(!coats.isEmpty());
        coats.remove(coats.size() - 1);
        return coats.size();
    }

    int pass(int days) {
        argument(in(days, 1, 100));
        state(day + days <= 2000);
        int dried = 0;
        for (int i = 0; i < days; i++) {
            day++;
            for (Wall wall : walls) {
                int points = Math.max(1, warmth / 2 + wind - wall.damp);
                for (List<Coat> coats : wall.strips) {
                    if (!coats.isEmpty() && !last(coats).dry) {
                        Coat coat = last(coats);
                        coat.points += points;
                        if (coat.points >= NEEDS[coat.plaster] * coat.thick) {
                            coat.dry = true;
                            dried++;
                            coat.cracked |= warmth >= 30 && coat.plaster == 3;
                        }
                    }
                }
            }
        }
        return dried;
    }

    int ofCoat(int wall, int strip, int coat, int what) {
        isStrip(wall, strip);
        index(in(coat, 0, coats(wall, strip).size() - 1));
        argument(in(what, 0, 5));
        Coat c = coats(wall, strip).get(coat);
        int[] all = {c.plaster, c.thick, c.day, c.dry ? 1 : 0, c.cracked ? 1 : 0, c.scratched ? 1 : 0};
        return all[what];
    }

    int coatsAnew(int wall, int strip) {
        isStrip(wall, strip);
        return coats(wall, strip).size();
    }

    char text(int wall, int strip, int coat, int place) {
        isStrip(wall, strip);
        index(in(coat, 0, coats(wall, strip).size() - 1));
        index(place >= 0);
        Coat c = coats(wall, strip).get(coat);
        String text = WORDS[c.plaster] + " " + c.thick + "mm" + (c.dry ? " dry" : "") + (c.cracked ? " cracked" : "");
        return place < text.length() ? text.charAt(place) : 0;
    }

    int profile(int depth) {
        argument(in(depth, 1, 100));
        state(profiles.size() < 10);
        profiles.add(new ArrayList<>(List.of(depth)));
        return profiles.size() - 1;
    }

    int depth(int profile, int depth) {
        index(in(profile, 0, profiles.size() - 1));
        argument(in(depth, 1, 100));
        state(profiles.get(profile).size() < 8);
        profiles.get(profile).add(depth);
        return profiles.get(profile).size();
    }

    float mitre(int profile, int other) {
        index(in(profile, 0, profiles.size() - 1) && in(other, 0, profiles.size() - 1));
        List<Integer> one = new ArrayList<>(profiles.get(profile));
        List<Integer> two = new ArrayList<>(profiles.get(other));
        while (one.size() < two.size()) {
            one.add(one.get(one.size() - 1));
        }
        while (two.size() < one.size()) {
            two.add(two.get(two.size() - 1));
        }
        float best = 0.5f;
        for (int i = 0; i < one.size(); i++) {
            float a = one.get(i);
            float b = two.get(i);
            float share = a / (a + b);
            if (Math.abs(share - 0.5f) > Math.abs(best - 0.5f)) {
                best = share;
            }
        }
        return best;
    }

    int fits(int run, int repeat) {
        argument(in(run, 1, 100000) && in(repeat, 1, 100000));
        int best = 1;
        for (int n = 2; n <= run / repeat + 2; n++) {
            // |run / n - repeat| < |run / best - repeat|, times n and best
            long away = Math.abs(run - (long) repeat * n) * best;
            long bestAway = Math.abs(run - (long) repeat * best) * n;
            if (away < bestAway) {
                best = n;
            }
        }
        return best;
    }

    float step(int run, int repeat) {
        return (float) ((double) run / fits(run, repeat));
    }

    int cut(int run, int tile, int joint) {
        argument(in(run, 2000, 100000) && in(tile, 1, 1000) && in(joint, 0, 20));
        int one = walk((run - tile) / 2, tile, joint, false);
        int two = walk((run - joint) / 2, tile, joint, true);
        return one == 0 || two == 0 ? 0 : Math.max(one, two);
    }

    private static int walk(int left, int tile, int joint, boolean tileNext) {
        while (left > 0) {
            if (tileNext && left < tile) {
                return left;
            }
            left -= tileNext ? tile : joint;
            tileNext = !tileNext;
        }
        return 0;
    }

    int window(int pigment, int days) {
        index(in(pigment, 0, 9));
        argument(in(days, 0, 3));
        int before = windows[pigment];
        windows[pigment] = days;
        return before;
    }

    int patch(long cells) {
        argument((cells & (1L << 48) - 1) != 0);
        state(patchDays.size() < 30);
        patchDays.add(day);
        for (int c = 0; c < 48; c++) {
            if ((cells >> c & 1) == 1) {
                patchOf[c] = patchDays.size() - 1;
                pigmentOf[c] = -1;
                seccoOf[c] = false;
            }
        }
        return patchDays.size() - 1;
    }

    int paint(int patch, int pigment, long cells, boolean secco) {
        index(in(patch, 0, patchDays.size() - 1) && in(pigment, 0, 9));
        boolean young = day - patchDays.get(patch) <= windows[pigment];
        state(secco ? !young : young);
        int painted = 0;
        for (int c = 0; c < 48; c++) {
            if ((cells >> c & 1) == 1 && patchOf[c] == patch) {
                pigmentOf[c] = pigment;
                seccoOf[c] = secco;
                painted++;
            }
        }
        return painted;
    }

    int ofCell(int cell, int what) {
        index(in(cell, 0, 47));
        argument(in(what, 0, 2));
        return what == 0 ? patchOf[cell] : what == 1 ? pigmentOf[cell] : seccoOf[cell] ? 1 : 0;
    }

    int over(int patch) {
        index(in(patch, 0, patchDays.size() - 1));
        boolean[] met = new boolean[30];
        for (int a = 0; a < 48; a++) {
            for (int b = 0; b < 48; b++) {
                if (Math.abs(a / 8 - b / 8) + Math.abs(a % 8 - b % 8) == 1 && patchOf[a] == patch
                        && patchOf[b] >= 0 && patchOf[b] < patch) {
                    met[patchOf[b]] = true;
                }
            }
        }
        int count = 0;
        for (boolean one : met) {
            count += one ? 1 : 0;
        }
        return count;
    }

    int tells(int a, int b, int c, int d, int e, int salts) {
        int[] readings = {a, b, c, d, e};
        int greatest = 0;
        boolean falls = true;
        for (int i = 0; i < 5; i++) {
            argument(in(readings[i], 0, 99));
            greatest = Math.max(greatest, readings[i]);
            falls &= i == 0 || readings[i] <= readings[i - 1];
        }
        argument(in(salts, 0, 99));
        if (falls && a >= e + 20 && salts >= 10) {
            return Stuccohand.RISING;
        }
        if (greatest >= a + 10 && greatest >= e + 10) {
            return Stuccohand.DRIVEN;
        }
        boolean alone = a < e && b < e && c < e && d < e;
        return alone ? Stuccohand.DEW : Stuccohand.UNCLEAR;
    }

    int pins(long loose) {
        boolean[][] left = new boolean[6][8];
        for (int c = 0; c < 48; c++) {
            left[c / 8][c % 8] = (loose >> c & 1) == 1;
        }
        int pins = 0;
        for (int c = 0; c < 48; c++) {
            pins += (take(left, c / 8, c % 8) + 3) / 4;
        }
        return pins;
    }

    private static int take(boolean[][] left, int row, int column) {
        if (row < 0 || row > 5 || column < 0 || column > 7 || !left[row][column]) {
            return 0;
        }
        left[row][column] = false;
        return 1 + take(left, row - 1, column) + take(left, row + 1, column)
                + take(left, row, column - 1) + take(left, row, column + 1);
    }

    int bill(int wall, int custom, int price) {
        isWall(wall);
        argument(in(custom, 0, 5) && in(price, 1, 100));
        int coats = 0, coated = 0, millimetres = 0, whole = 0, atLeastThree = 0;
        for (List<Coat> strip : walls.get(wall).strips) {
            coated += strip.isEmpty() ? 0 : 1;
            for (Coat coat : strip) {
                coats++;
                millimetres += coat.thick;
                whole += coat.cracked ? 0 : 1;
                atLeastThree += coat.thick < 3 ? 3 : coat.thick;
            }
        }
        int[] bills = {coats, coated, millimetres, whole, atLeastThree};
        return custom < 5 ? bills[custom] * price : coats * price + coats * price / 2;
    }
}
