/** Promise 15, sentence by sentence at its bounds. */
public final class JudgeEdgesTest {
    private static final long WORST = 10010L * 10010;

    public static void main(String[] args) {
        emptyTape();
        twoBytesEach();
        higherFirst();
        aheadOfTheEnd();
        rising();
        wrongTapes();
        nothingSet();
        allBreaks();
        aboveTold();
        aboveTenThousand();
        tooLong();
        tooLongTaken();
        changesNothing();
        whatWasSet();
        Check.done("JudgeEdgesTest");
    }

    private static LineSetter of(String text, int width, int align, int tolerance) {
        LineSetter x = new LineSetter();
        Check.run(x, text, 1000);
        x.set(width, 0, align, 0, tolerance);
        return x;
    }

    private static String judged(LineSetter x, String tape) {
        Check.feed(x, tape);
        return Check.outcome(x::judge);
    }

    private static final String REFUSED = "throws." + Check.IAE;

    private static void emptyTape() {
        Check.sentence("what these cost in all, with the END");
        Check.same("no break, one there is", judged(of("a", 1000, 0, 1), ""), "100");
        Check.same("no break of three", judged(of("a b c", 2500, 0, 1), ""), "100");
        Check.same("one break of three", judged(of("aa b c", 1000, 1, 10000), "\0\1"), "-1");
        Check.same("two breaks of three", judged(of("aa bb cc", 1000, 1, 10000), "\0\1\0\2"), "300");
    }

    private static void twoBytesEach() {
        Check.sentence("two bytes each");
        for (String tape : new String[] {"\0", "\1", "\0\1\0", "\0\1\2", "\0\1\0\2\0"}) {
            LineSetter x = of("a b c d", 1000000, 0, 1);
            Check.same("an odd tape", judged(x, tape), REFUSED);
            Check.answers("the tape is empty then", () -> x.count(0), 0);
        }
    }

    private static void higherFirst() {
        Check.sentence("the higher first");
        LineSetter x = of("aa ".repeat(600), 1000, 1, 1);
        Check.same("break 1 of 600", judged(x, "\0\1"), "-1");
        Check.same("break 256 of 600", judged(x, "\1\0"), "-1");
        Check.same("break 599 of 600", judged(x, "\2\127"), "-1");
        Check.same("the end", judged(x, "\2\130"), REFUSED);
        Check.same("behind the end", judged(x, "\2\131"), REFUSED);
        Check.same("255, 256", judged(x, "\0\u00ff\1\0"), "-1");
        Check.same("256, 255", judged(x, "\1\0\0\u00ff"), REFUSED);
        Check.same("255, 511", judged(x, "\0\u00ff\1\u00ff"), "-1");
        Check.same("32768", judged(x, "\u0080\0"), REFUSED);
        Check.same("65535", judged(x, "\u00ff\u00ff"), REFUSED);
        LineSetter y = of("aa ".repeat(300), 256 * 1500 - 500, 1, 1);
        Check.same("the line to break 256 is full", judged(y, "\1\0"), "200");
        Check.same("the line to break 1 is not", judged(y, "\0\1"), "-1");
    }

    private static void aheadOfTheEnd() {
        Check.sentence("numbers of BREAKS ahead of the END");
        LineSetter x = of("a b c d", 1000000, 1, 10000);
        Check.same("0", judged(x, "\0\0"), REFUSED);
        Check.same("1", judged(x, "\0\1"), Long.toString(109 * 109 + 100));
        Check.same("3", judged(x, "\0\3"), Long.toString(109 * 109 + 100));
        Check.same("4, the end", judged(x, "\0\4"), REFUSED);
        Check.same("5", judged(x, "\0\5"), REFUSED);
        Check.same("3 and the end", judged(x, "\0\3\0\4"), REFUSED);
        LineSetter y = of("a", 1000, 0, 1);
        Check.same("0 of 1", judged(y, "\0\0"), REFUSED);
        Check.same("1 of 1", judged(y, "\0\1"), REFUSED);
    }

    private static void rising() {
        Check.sentence("rising (else IllegalArgumentException)");
        LineSetter x = of("aa bb cc dd", 1000, 1, 10000);
        Check.same("1, 2, 3", judged(x, "\0\1\0\2\0\3"), "400");
        Check.same("1, 1", judged(x, "\0\1\0\1"), REFUSED);
        Check.same("2, 1", judged(x, "\0\2\0\1"), REFUSED);
        Check.same("1, 2, 2", judged(x, "\0\1\0\2\0\2"), REFUSED);
        Check.same("1, 3, 2", judged(x, "\0\1\0\3\0\2"), REFUSED);
        Check.same("1, 0", judged(x, "\0\1\0\0"), REFUSED);
        Check.same("1, 2, 3, 3", judged(x, "\0\1\0\2\0\3\0\3"), REFUSED);
        Check.same("also behind a line that is not allowed", judged(x, "\0\3\0\1"), REFUSED);
    }

    private static void wrongTapes() {
        Check.sentence("A call that throws changes nothing, but THE TAPE and PLACE: judge");
        for (String tape : new String[] {"\0", "\0\0", "\0\1\0", "\0\1\0\1", "\0\2\0\1", "\u00ff\u00ff", "\2\130"}) {
            Twins.refused("judge", Twins::busy, tape, LineSetter::judge, Check.IAE, Twins.PLACE);
        }
    }

    private static void nothingSet() {
        Check.sentence("IllegalArgumentException, behind IllegalStateException");
        for (String tape : new String[] {"", "\0", "\0\0", "\0\1", "\u00ff\u00ff\1"}) {
            Twins.refused("judge while nothing is set", Twins::unset, tape, LineSetter::judge, Check.ISE, Twins.PLACE);
        }
    }

    private static void allBreaks() {
        Check.sentence("as many BREAKS as there can be");
        LineSetter x = of("aa ".repeat(600), 1000, 1, 1);
        Check.answers("they were chosen", () -> x.told(0), 60000);
        StringBuilder all = new StringBuilder();
        for (int b = 1; b < 600; b++) {
            all.append((char) (b >> 8)).append((char) (b & 255));
        }
        Check.same("all of them", judged(x, all.toString()), "60000");
        Check.same("the end, too", judged(x, all + "\2\130"), REFUSED);
        LineSetter y = of("a b", 1000000, 0, 1);
        Check.same("a full tape", judged(y, "\0\1".repeat(4096)), REFUSED);
    }

    /** "a b c" with a first line "a b" of this RATIO (glue 2000, A 1000) and c as wide as the line. */
    private static LineSetter pair(int ratio, int tolerance) {
        LineSetter x = new LineSetter();
        Check.font(x, "width\"a\"3000;width\" \"2000;width\"b\"" + (5000 - ratio) + ";width\"c\"1000;");
        Check.run(x, "a b ", 1000);
        Check.run(x, "c", 10000);
        x.set(10000, 0, 0, 0, tolerance);
        return x;
    }

    /** The chosen row has no BADNESS, so the tolerance is taken; that of three lines has two of RATIOS 500 and 502: BADNESS 12. */
    private static LineSetter twelve(int tolerance) {
        LineSetter x = new LineSetter();
        Check.font(x, "width\"p\"500;width\"q\"498;width\" \"2;width\"r\"1000;");
        Check.run(x, "p q r", 10000);
        x.set(10000, 0, 1, 0, tolerance);
        return x;
    }

    private static void aboveTold() {
        Check.sentence("-1 if a line's BADNESS is above TOLD");
        for (int tolerance : new int[] {1, 11, 12, 13, 10000}) {
            LineSetter y = twelve(tolerance);
            Check.answers("the tolerance is taken", () -> y.told(1), tolerance);
            Check.answers("BADNESS 12, TOLD " + tolerance, () -> Check.judge(y, 1, 2), tolerance < 12 ? -1 : 22 * 22 * 2 + 100);
            Check.answers("the row that was chosen", () -> Check.judge(y, 2), 200);
        }
        LineSetter x = new LineSetter();
        Check.run(x, "aa bb cc", 1000);
        x.set(1600, 0, 1, 0, 5);
        Check.answers("BADNESS 5 of each line", () -> x.line(0, 7), 5);
        Check.answers("TOLD 5", () -> x.told(1), 5);
        Check.answers("BADNESS 5, TOLD 5", () -> Check.judge(x, 1, 2), 15 * 15 * 2 + 100);
        x.set(1600, 0, 1, 0, 4);
        Check.answers("TOLD 10000", () -> x.told(1), 10000);
        Check.answers("BADNESS 5, TOLD 10000", () -> Check.judge(x, 1, 2), 15 * 15 * 2 + 100);
    }

    private static void aboveTenThousand() {
        Check.sentence("BADNESS 10000 is not above TOLD 10000");
        LineSetter x = pair(4000, 1);
        Check.answers("TOLD", () -> x.told(1), 10000);
        Check.answers("the row that was chosen", () -> Check.judge(x, 2), 6410L * 6410 + 10000 + 100 + 10000);
        Check.answers("lines of one word", () -> Check.judge(x, 1, 2), WORST + 10000 + WORST + 100 + 10000);
        LineSetter y = pair(0, 9999);
        Check.answers("TOLD 9999", () -> y.told(1), 9999);
        Check.answers("lines of one word then", () -> Check.judge(y, 1, 2), -1);
    }

    private static void tooLong() {
        Check.sentence("or it is TOO LONG and TOLD is not 10001");
        LineSetter x = pair(0, 10000);
        Check.answers("TOLD 10000", () -> x.told(1), 10000);
        Check.answers("the first line is too long", () -> Check.judge(x), -1);
        Check.answers("the second line is too long", () -> Check.judge(x, 1), -1);
        Check.answers("none is", () -> Check.judge(x, 2), 200);
        LineSetter y = pair(0, 1);
        Check.answers("TOLD 1", () -> y.told(1), 1);
        Check.answers("too long", () -> Check.judge(y), -1);
    }

    private static void tooLongTaken() {
        Check.sentence("TOLD 10001 allows all");
        LineSetter x = of("aaa bb cc", 1000, 0, 1);
        Check.answers("TOLD", () -> x.told(1), 10001);
        Check.answers("one line", () -> Check.judge(x), WORST + 1000000000 + 4500 - 332 - 1000);
        Check.answers("two lines", () -> Check.judge(x, 1), WORST + 1000000500 + WORST + 1000000000 + 2500 - 166 - 1000);
        Check.answers("two other lines", () -> Check.judge(x, 2), WORST + 1000000000 + 3000 - 166 - 1000 + 100);
        Check.answers("three lines", () -> Check.judge(x, 1, 2), WORST + 1000000500 + 200);
        Check.answers("the cheapest was chosen", () -> x.told(0), WORST + 1000000500 + 200);
    }

    private static void changesNothing() {
        Check.sentence("judges other breaks: what was SET stays");
        LineSetter x = Twins.busy();
        LineSetter y = Twins.busy();
        x.end(0);
        Check.judge(x, 1, 3);
        Check.judge(x);
        Check.same("what was set", Twins.setting(x), Twins.setting(y));
    }

    private static void whatWasSet() {
        Check.sentence("BREAKS of what was SET, not of THE PARAGRAPH");
        LineSetter x = of("aa bb cc", 1000, 1, 10000);
        x.clear();
        Check.answers("behind clear", () -> Check.judge(x, 1, 2), 300);
        Check.run(x, "a", 1000);
        Check.font(x, "width\"a\"1;");
        Check.answers("behind run and font", () -> Check.judge(x, 1, 2), 300);
        x.set(1000, 0, 1, 0, 1);
        Check.same("behind set", judged(x, "\0\1"), REFUSED);
    }
}
