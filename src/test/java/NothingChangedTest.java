/** Terms: a call that throws an exception changes nothing. Two objects are made alike; one gets such a call more. */
public final class NothingChangedTest {
    private static final Check check = new Check("NothingChangedTest");

    private interface Wrong {
        void callOn(Stuccohand x);
    }

    public static void main(String[] args) {
        walls();
        mouldingsAndFresco();
        check.due("nothing wrong twice alike", told(prepared()), told(prepared()));
        check.finish();
    }

    private static void walls() {
        test("wall", x -> x.wall(3, 3));
        test("weather, wind alone wrong", x -> x.weather(50, 21));
        test("weather, warmth alone wrong", x -> x.weather(51, 20));
        test("damp", x -> x.damp(0, 31));
        test("joint", x -> x.joint(0, 3));
        test("coat without a strip", x -> x.coat(0, 1, 4, 0, 1));
        test("coat without thickness", x -> x.coat(0, 1, 2, 0, 0));
        test("coat, the last strip too soft", x -> x.coat(0, 0, 3, 1, 1));
        test("coat, the last strip wet", x -> x.coat(0, 2, 3, 0, 1));
        test("scratch, the first strip bare", x -> x.scratch(0, 2, 3));
        test("scratch, of another day", x -> x.scratch(0, 0, 0));
        test("strike", x -> x.strike(0, 2));
        test("pass", x -> x.pass(101));
        test("ofCoat", x -> x.ofCoat(0, 0, 0, 6));
        test("coatsAnew", x -> x.coatsAnew(0, 4));
        test("text", x -> x.text(0, 0, 0, -1));
        test("bill", x -> x.bill(0, 6, 1));
    }

    private static void mouldingsAndFresco() {
        test("profile", x -> x.profile(101));
        test("depth", x -> x.depth(0, 101));
        test("a ninth depth", x -> x.depth(1, 100));
        test("mitre", x -> x.mitre(0, 2));
        test("fits", x -> x.fits(0, 1));
        test("step", x -> x.step(0, 1));
        test("cut", x -> x.cut(1999, 1, 0));
        test("window", x -> x.window(3, 4));
        test("patch", x -> x.patch(1L << 48));
        test("paint, too old", x -> x.paint(0, 1, -1L, false));
        test("paint, not too old", x -> x.paint(1, 1, -1L, true));
        test("ofCell", x -> x.ofCell(0, 3));
        test("over", x -> x.over(2));
        test("tells", x -> x.tells(0, 0, 0, 0, 0, 100));
    }

    private static Stuccohand prepared() {
        Stuccohand x = new Stuccohand();
        x.wall(4, Stuccohand.BRICK);
        x.damp(0, 3);
        x.joint(0, 0);
        x.coat(0, 0, 1, 1, 2);
        x.scratch(0, 1, 1);
        x.profile(30);
        x.profile(1);
        for (int i = 0; i < 7; i++) {
            x.depth(1, 10 * i + 9);
        }
        x.patch(0xFF00L);
        x.paint(0, 2, 0x0F00L, false);
        x.window(3, 1);
        x.weather(20, 2);
        x.pass(3);
        x.coat(0, 3, 3, 0, 5);
        x.patch(0xFL);
        x.paint(1, 4, 0x3L, false);
        return x;
    }

    private static void test(String call, Wrong wrong) {
        Stuccohand x = prepared();
        Object outcome = Check.outcome(() -> {
            wrong.callOn(x);
            return "nothing";
        });
        check.due(call + " throws", true, outcome.toString().startsWith("throws.I") && !outcome.toString().contains(" "));
        check.due(call + ": what is told then", told(prepared()), told(x));
    }

    /** All that can be asked, in fewer calls than the object has left; what asks by changing comes last. */
    private static String told(Stuccohand x) {
        StringBuilder all = new StringBuilder();
        for (int strip = 0; strip < 4; strip++) {
            int coats = x.coatsAnew(0, strip);
            all.append(" strip ").append(coats);
            for (int coat = 0; coat < coats; coat++) {
                for (int what = 0; what < 6; what++) {
                    all.append(' ').append(x.ofCoat(0, strip, coat, what));
                }
            }
        }
        all.append(" profiles ").append(x.mitre(0, 1)).append(' ').append(x.mitre(1, 0));
        all.append(" of one depth ").append(x.depth(0, 7)).append(" then ").append(x.profile(1));
        for (int cell = 0; cell < 48; cell++) {
            all.append(' ').append(x.ofCell(cell, 0)).append('/').append(x.ofCell(cell, 1));
            all.append('/').append(x.ofCell(cell, 2));
        }
        all.append(" over ").append(x.over(1)).append(" windows");
        for (int pigment = 0; pigment < 10; pigment++) {
            all.append(' ').append(x.window(pigment, 0));
        }
        for (int day = 0; day < 4; day++) {
            all.append(" dried ").append(x.pass(1));
        }
        all.append(" damp ").append(x.damp(0, 0)).append(" patch ").append(x.patch(1L << 47));
        for (int strip = 0; strip < 3; strip++) {
            all.append(" joint ").append(x.joint(0, strip));
        }
        x.coat(0, 2, 2, 0, 20);
        all.append(" day ").append(x.ofCoat(0, 2, 0, 2)).append(" dried ").append(x.pass(6));
        return all.append(' ').append(x.pass(1)).append(" wall ").append(x.wall(1, 0)).toString();
    }
}
