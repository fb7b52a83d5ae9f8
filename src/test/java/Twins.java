import java.util.function.Supplier;

/**
 * Two objects of the same making, one of which alone is asked for something that must leave it as it
 * is: all that can be learnt of the two must be the same. A look uses its object up, so each look has
 * a pair of its own, and no object is asked more than 512 times.
 */
final class Twins {
    interface Ask {
        long of(LineSetter x);
    }

    interface Look {
        String at(LineSetter x);
    }

    /** The PLACE that busy and unset leave. */
    static final int PLACE = 2;

    private static final Look[] LOOKS = {Twins::tape, Twins::out, Twins::setting, Twins::font, Twins::hyphens, Twins::paragraph};

    private Twins() {
    }

    /** Something of everything: what is SET was told in another FONT, other HYPHENS and a shorter PARAGRAPH than there are now. */
    static LineSetter busy() {
        LineSetter x = new LineSetter();
        Check.font(x, "width \"a\" 400; width \" \" 301; kern \"a\" \"b\" - 60; join \"f\" \"i\" 480;");
        Check.hyphens(x, "ends 11 a1b =fi-fi");
        Check.run(x, "aabb fi-", 1000);
        Check.run(x, "fifi ab", 2000);
        x.set(3000, 300, 0, 1, 200);
        goOn(x);
        return x;
    }

    /** As busy, but nothing is SET and THE PARAGRAPH is none. */
    static LineSetter unset() {
        LineSetter x = new LineSetter();
        goOn(x);
        x.clear();
        return x;
    }

    private static void goOn(LineSetter x) {
        Check.font(x, "width \"a\" 410; kern \"a\" \"b\" 70; join \"f\" \"f\" 510; width \"-\" 210;");
        Check.hyphens(x, "ends 12 b1a =ab-ab");
        Check.run(x, " abba-ab ", 3000);
        Check.parts(x, "abbabAB");
        Check.font(x, "  ?");
        Check.feed(x, "bBa");
    }

    /** For calls that do not read THE TAPE. */
    static void refused(String what, Supplier<LineSetter> made, Ask call, String exception) {
        alike(what, made, call, "throws." + exception, false);
        LineSetter x = made.get();
        int before = x.place();
        Check.outcome(() -> call.of(x));
        Check.answers("the place behind " + what, x::place, before);
    }

    /** For calls that read it: the tape is fed, the call is refused, the PLACE is as due. */
    static void refused(String what, Supplier<LineSetter> made, String tape, Ask call, String exception, int place) {
        Ask fedCall = x -> {
            x.end(0);
            Check.feed(x, tape);
            return call.of(x);
        };
        alike(what, made, fedCall, "throws." + exception, true);
        LineSetter x = made.get();
        Check.outcome(() -> fedCall.of(x));
        Check.answers("the place behind " + what, x::place, place);
    }

    private static void alike(String what, Supplier<LineSetter> made, Ask call, String due, boolean emptiesTape) {
        for (Look look : LOOKS) {
            LineSetter x = made.get();
            LineSetter y = made.get();
            Check.same(what, Check.outcome(() -> call.of(x)), due);
            if (emptiesTape) {
                y.end(0);
            }
            Check.same("what is there behind " + what, look.at(x), look.at(y));
        }
    }

    static String tape(LineSetter x) {
        int length = x.count(0);
        x.end(Math.min(length, 60));
        return length + " " + Check.outcome(x::parts) + " " + Check.out(x);
    }

    static String out(LineSetter x) {
        return x.count(1) + " " + Check.out(x) + " " + x.count(2);
    }

    static String setting(LineSetter x) {
        StringBuilder seen = new StringBuilder();
        for (int what = 0; what < 6; what++) {
            int k = what;
            seen.append(Check.outcome(() -> x.told(k))).append(" ");
        }
        if (seen.indexOf("throws") >= 0) {
            return seen.toString();
        }
        for (int b = 1; b <= x.told(2); b++) {
            seen.append("\n").append(x.at(b, 0)).append(" ").append(x.at(b, 1)).append(" ").append(x.at(b, 2)).append(" ").append(x.at(b, 3));
        }
        int lines = (int) x.told(3);
        int[] row = new int[lines - 1];
        for (int j = 0; j < lines; j++) {
            seen.append("\n").append(line(x, j));
            if (j < row.length) {
                row[j] = (int) x.line(j, 1);
            }
        }
        x.end(0);
        return seen.append("\n").append(Check.judge(x, row)).toString();
    }

    private static String line(LineSetter x, int j) {
        StringBuilder seen = new StringBuilder();
        for (int what = 0; what < 8; what++) {
            seen.append(x.line(j, what)).append(" ");
        }
        for (int w = 0; w < x.line(j, 6); w++) {
            seen.append("@").append(x.spot(j, w)).append(" ");
        }
        return seen.append(Check.text(x, j)).toString();
    }

    static String font(LineSetter x) {
        StringBuilder seen = new StringBuilder();
        x.end(0);
        for (String text : new String[] {"a", "b", " ", "-", "z", "ab", "fi", "ff", "ba"}) {
            seen.append(Check.width(x, text, 1000)).append(" ");
        }
        return seen.toString();
    }

    static String hyphens(LineSetter x) {
        StringBuilder seen = new StringBuilder();
        x.end(0);
        for (String text : new String[] {"aabb", "fifi", "abab", "bababa", "zz"}) {
            seen.append(Check.parts(x, text)).append(" ");
        }
        return seen.toString();
    }

    /** A further byte shows whether a blank waits at the end of THE PARAGRAPH, and of which size. */
    static String paragraph(LineSetter x) {
        x.end(0);
        String seen = x.count(2) + " " + Check.outcome(() -> x.set(5000, 0, 1, 0, 10000));
        Check.run(x, "z", 7000);
        return seen + " " + x.count(2) + " " + x.set(1000000, 0, 1, 0, 10000) + " " + setting(x);
    }
}
