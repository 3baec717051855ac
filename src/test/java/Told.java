/** All that an object answers, in one text: two objects in the same state tell the same. The object is used up by it. */
final class Told {
    /** With the calls by which the objects of the tests are made they stay under 512. */
    private static final int MOST_CALLS = 400;

    private final Stuccohand x;
    private final StringBuilder all = new StringBuilder();
    private int calls;

    private Told(Stuccohand x) {
        this.x = x;
    }

    static String of(Stuccohand x) {
        Told told = new Told(x);
        told.strips();
        told.profiles();
        told.fresco();
        told.days();
        told.joints();
        told.counts();
        return told.calls <= MOST_CALLS ? told.all.toString() : "too many calls: " + told.calls;
    }

    private Object say(Check.Call made) {
        calls++;
        Object got = Check.outcome(made);
        all.append(' ').append(got);
        return got;
    }

    private void strips() {
        for (int strip = 0; strip < 4; strip++) {
            int at = strip;
            all.append("; strip ");
            Object coats = say(() -> x.coatsAnew(0, at));
            int count = coats instanceof Integer ? (Integer) coats : 0;
            for (int coat = 0; coat <= count; coat++) {
                int number = coat;
                for (int what = 0; what < (coat < count ? 6 : 1); what++) {
                    int kind = what;
                    say(() -> x.ofCoat(0, at, number, kind));
                }
            }
        }
        all.append("; bills ");
        say(() -> x.bill(0, 2, 1));
        say(() -> x.bill(1, 2, 1));
    }

    private void profiles() {
        all.append("; mitres ");
        say(() -> x.mitre(0, 1));
        say(() -> x.mitre(1, 0));
        say(() -> x.mitre(0, 9));
        all.append("; depths ");
        say(() -> x.depth(0, 1));
        say(() -> x.depth(1, 100));
        say(() -> x.mitre(1, 0));
        all.append("; profile ");
        say(() -> x.profile(1));
    }

    private void fresco() {
        all.append("; cells ");
        for (int cell = 0; cell < 48; cell++) {
            int at = cell;
            say(() -> x.ofCell(at, 0));
            say(() -> x.ofCell(at, 1));
            say(() -> x.ofCell(at, 2));
        }
        all.append("; over ");
        for (int patch = 0; patch < 3; patch++) {
            int at = patch;
            say(() -> x.over(at));
            say(() -> x.paint(at, 9, 0L, false));
        }
        say(() -> x.over(29));
        all.append("; windows ");
        for (int pigment = 0; pigment < 10; pigment++) {
            int at = pigment;
            say(() -> x.window(at, 0));
        }
    }

    /** Strip 3 of wall 0 is bare, or its coat is dry and not harder than lime. */
    private void days() {
        all.append("; days ");
        say(() -> x.coat(0, 3, 3, 0, 20));
        say(() -> x.ofCoat(0, 3, 0, 2));
        say(() -> x.ofCoat(0, 3, 1, 2));
        for (int day = 0; day < 12; day++) {
            say(() -> x.pass(1));
        }
        say(() -> x.pass(100));
        all.append("; dampness ");
        for (int wall = 0; wall < 3; wall++) {
            int at = wall;
            say(() -> x.damp(at, 0));
        }
    }

    private void joints() {
        all.append("; joints ");
        for (int strip = 0; strip < 3; strip++) {
            int at = strip;
            say(() -> x.joint(0, at));
        }
        say(() -> x.joint(1, 0));
    }

    private void counts() {
        all.append("; wall ");
        say(() -> x.wall(1, 0));
        all.append("; patch ");
        say(() -> x.patch(1L << 47));
        say(() -> x.over(0));
    }
}
