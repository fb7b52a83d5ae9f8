/** LINES, their RATIO, BADNESS, CLASS and COST, the choice among rows, and promise 12: sentence by sentence at their bounds. */
public final class LineEdgesTest {
    private static final int ROOM = 10000;
    private static final long WORST = 10010L * 10010;

    public static void main(String[] args) {
        roomOfTheFirst();
        roomOfOthers();
        brokenGlue();
        alignments();
        ratioBelow();
        ratioAtMost();
        ratioWithoutStretch();
        ratioToTheEnd();
        ratioAbove();
        tooLong();
        tooLongByTheHyphen();
        badness();
        classAheadOfTheFirst();
        classes();
        classOfTooLong();
        costAtHyphensAndDashes();
        costOfTooLong();
        tolerances();
        toleranceOfEachLine();
        toleranceAheadOfCost();
        toleranceNotEnough();
        noBreakIsLess();
        lastBreakIsLeast();
        breakAheadOfTheLast();
        tieOfManyLines();
        lineRange();
        lineWords();
        Check.done("LineEdgesTest");
    }

    private static String width(char b, int n) {
        return "width\"" + b + "\"" + n + ";";
    }

    /** Two words and a glue of these widths, with c behind them, which fills a line. */
    private static LineSetter pair(int natural, int glue) {
        LineSetter x = new LineSetter();
        int a = Math.min(5000, natural - glue);
        Check.font(x, width('a', a) + width(' ', glue) + width('b', natural - glue - a) + width('c', 1000));
        Check.run(x, "a b ", 1000);
        Check.run(x, "c", 10000);
        return x;
    }

    private static void roomOfTheFirst() {
        Check.sentence("L the width, less indent for the first line (at least 1000)");
        int[][] due = {{2000, 0, 2000}, {2000, 1, 1999}, {2000, 999, 1001}, {2000, 1000, 1000}, {2000, 1001, 1000}, {2000, 2000, 1000},
            {2000, 500000, 1000}, {1000, 0, 1000}, {1000, 1, 1000}, {1000, 500000, 1000}, {1000000, 500000, 500000}, {1000000, 499999, 500001}};
        for (int[] n : due) {
            LineSetter x = new LineSetter();
            Check.run(x, "a", 1000);
            x.set(n[0], n[1], 2, 0, 1);
            Check.answers("width " + n[0] + ", indent " + n[1], () -> x.line(0, 4), n[1] + n[2] - 500);
            Check.answers("its word", () -> x.spot(0, 0), n[1] + n[2] - 500);
        }
        LineSetter y = new LineSetter();
        Check.run(y, "aa", 1000);
        y.set(1000, 500000, 0, 0, 1);
        Check.answers("a word of 1000 fits", () -> y.line(0, 2), 0);
        LineSetter z = new LineSetter();
        Check.run(z, "aa", 1002);
        z.set(1002, 500000, 0, 0, 1);
        Check.answers("a word of 1002 is too long", () -> z.told(1), 10001);
        Check.answers("by 2", () -> z.told(0), WORST + 1000000002L);
    }

    private static void roomOfOthers() {
        Check.sentence("L the width: the indent is the first line's alone");
        LineSetter x = new LineSetter();
        Check.run(x, "aa aa aa", 1000);
        Check.answers("three lines", () -> x.set(1600, 600, 2, 0, 10000), 3);
        long[] due = {600, 600, 600};
        for (int j = 0; j < 3; j++) {
            int k = j;
            Check.answers("line " + j, () -> x.line(k, 4), due[j]);
        }
        Check.answers("the first is just full", () -> x.line(0, 2), 0);
        Check.answers("the second is not", () -> x.line(1, 2), 600 * 1000 / 1600);
    }

    private static void brokenGlue() {
        Check.sentence("a GLUE that is broken is nothing");
        LineSetter x = new LineSetter();
        Check.run(x, "aa bb", 1000);
        Check.answers("two lines", () -> x.set(1000, 0, 0, 0, 1), 2);
        Check.answers("no glue at the end", () -> x.line(0, 3), 1000);
        Check.answers("no stretch of it, either", () -> x.line(0, 2), 0);
        Check.answers("no glue at the beginning", () -> x.line(1, 3), 1000);
        Check.same("nor in the text", Check.text(x, 0) + "|" + Check.text(x, 1), "aa|bb");
        x.set(1100, 0, 0, 0, 1);
        Check.answers("A is 0 without it", () -> x.line(0, 2), 100000);
    }

    private static void alignments() {
        Check.sentence("If align is not just: A is L, Z is 0");
        for (int align = 1; align <= 3; align++) {
            int a = align;
            int[][] due = {{10000, 0}, {9991, 0}, {9990, 1}, {9000, 100}, {5000, 500}, {4990, 501}};
            for (int[] n : due) {
                LineSetter x = pair(n[0], 2000);
                x.set(ROOM, 0, a, 0, 10000);
                Check.answers("align " + align + " of " + n[0], () -> x.line(0, 2), n[1]);
            }
            LineSetter y = pair(10001, 2000);
            y.set(ROOM, 0, a, 0, 10000);
            Check.answers("above L nothing shrinks", () -> y.line(0, 1), 1);
            LineSetter z = new LineSetter();
            Check.run(z, "a", 1000);
            Check.run(z, " aaa", 1000);
            z.set(2000, 900, a, 0, 10000);
            Check.answers("A is the first line's L", () -> z.line(0, 2), 600 * 1000 / 1100);
            LineSetter w = new LineSetter();
            Check.run(w, "aa b", 1000);
            w.set(1000, 0, a, 0, 1);
            Check.answers("the second line of " + align, () -> w.line(1, 2), 0);
            LineSetter v = new LineSetter();
            Check.run(v, "aa bb", 1000);
            Check.answers("just, in one line", () -> v.set(2500, 0, 0, 0, 1), 1);
            Check.answers("not just, it does not shrink", () -> v.set(2400, 0, a, 0, 10000), 2);
            Check.answers("just again, it does", () -> v.set(2400, 0, 0, 0, 10000), 1);
        }
    }

    private static void ratio(int natural, int glue, long due) {
        LineSetter x = pair(natural, glue);
        x.set(ROOM, 0, 0, 0, 10000);
        Check.answers("the line of " + natural + " with glue " + glue, () -> x.line(0, 1), 2);
        Check.answers("N " + natural + ", glue " + glue, () -> x.line(0, 2), due);
        Check.answers("N", () -> x.line(0, 3), natural);
    }

    private static void ratioBelow() {
        Check.sentence("N below L: (L - N) * 1000 / A rounded down; N = L: 0");
        ratio(10000, 2000, 0);
        ratio(9999, 2000, 1);
        ratio(9998, 2000, 2);
        ratio(9000, 2000, 1000);
        ratio(9999, 1998, 1);
        ratio(9999, 2002, 0);
        ratio(9998, 2002, 1);
        ratio(8999, 2002, 1000);
        ratio(9000, 2002, 999);
    }

    private static void ratioAtMost() {
        Check.sentence("at most 100000");
        ratio(9902, 2, 98000);
        ratio(9901, 2, 99000);
        ratio(9900, 2, 100000);
        ratio(9899, 2, 100000);
        ratio(5000, 2, 100000);
        ratio(9801, 4, 99500);
        ratio(9800, 4, 100000);
        ratio(9799, 4, 100000);
    }

    private static void ratioWithoutStretch() {
        Check.sentence("100000 if A is 0");
        ratio(9999, 0, 100000);
        ratio(9999, 1, 100000);
        ratio(10000, 0, 0);
        ratio(10000, 1, 0);
        LineSetter x = new LineSetter();
        Check.run(x, "aa bb", 1000);
        x.set(1001, 0, 0, 0, 1);
        Check.answers("a line of one word", () -> x.line(0, 2), 100000);
    }

    /** "a b" in one line to the END. */
    private static LineSetter toEnd(int natural, int glue) {
        LineSetter x = new LineSetter();
        Check.font(x, width('a', 5000) + width(' ', glue) + width('b', natural - glue - 5000));
        Check.run(x, "a b", 1000);
        x.set(ROOM, 0, 0, 0, 10000);
        return x;
    }

    private static void ratioToTheEnd() {
        Check.sentence("the line to the END: 0");
        int[][] due = {{8000, 0, 0}, {9999, 0, 0}, {10000, 0, 0}, {10001, -1, 0}, {10500, -500, 12}, {11000, -1000, 100}};
        for (int[] n : due) {
            LineSetter x = toEnd(n[0], 3000);
            Check.answers("its lines", () -> x.told(3), 1);
            Check.answers("N " + n[0], () -> x.line(0, 2), n[1]);
            Check.answers("its badness", () -> x.line(0, 7), n[2]);
        }
        LineSetter y = toEnd(11001, 3000);
        Check.answers("one too much for one line", () -> y.told(3), 2);
        Check.answers("the end's line", () -> y.line(1, 2), 0);
        LineSetter z = new LineSetter();
        Check.run(z, "aaa", 1000);
        z.set(1499, 0, 0, 0, 1);
        Check.answers("one that is too long", () -> z.line(0, 2), -1000);
        Check.answers("its badness", () -> z.line(0, 7), 10000);
    }

    private static void ratioAbove() {
        Check.sentence("N above L: - (N - L) * 1000 / Z, the quotient rounded up, if N - L is at most Z");
        ratio(10001, 3000, -1);
        ratio(10002, 3000, -2);
        ratio(10999, 3000, -999);
        ratio(11000, 3000, -1000);
        ratio(10001, 2000, -2);
        ratio(10002, 2000, -4);
        ratio(10333, 2000, -500);
        ratio(10334, 2000, -502);
        ratio(10665, 2000, -999);
        ratio(10666, 2000, -1000);
        ratio(10001, 3003, -1);
        ratio(10500, 3003, -500);
        ratio(10501, 3003, -501);
        ratio(10001, 3, -1000);
        ratio(10001, 5, -1000);
        ratio(10001, 6, -500);
    }

    private static void tooLong() {
        Check.sentence("else the line is TOO LONG: -1000");
        int[][] glues = {{3000, 11001}, {2000, 10667}, {3, 10002}, {2, 10001}, {1, 10001}};
        for (int[] n : glues) {
            LineSetter x = pair(n[1], n[0]);
            x.set(ROOM, 0, 0, 0, 10000);
            Check.answers("one more than Z of glue " + n[0], () -> x.line(0, 1), 1);
            Check.answers("it is not allowed", () -> Check.judge(x, 2), -1);
            Check.answers("what is taken", () -> x.told(1), 10000);
        }
        LineSetter y = new LineSetter();
        Check.run(y, "aa", 1000);
        y.set(1000, 0, 0, 0, 1);
        Check.answers("N = L", () -> y.line(0, 2), 0);
        Check.run(y, "aa", 1001);
        y.set(1999, 0, 0, 0, 1);
        Check.answers("N = L + 1", () -> y.line(0, 2), -1000);
        Check.answers("its badness", () -> y.line(0, 7), 10000);
        Check.answers("its N", () -> y.line(0, 3), 2000);
    }

    private static void tooLongByTheHyphen() {
        Check.sentence("a line that is TOO LONG by the - at a HYPHEN alone does not keep a longer one out");
        LineSetter x = new LineSetter();
        Check.font(x, width('q', 0));
        Check.hyphens(x, "ends 11 b1q");
        Check.run(x, "a bq", 1000);
        Check.answers("in one line", () -> x.set(1334, 0, 0, 1, 100), 1);
        Check.answers("as the tolerance allows", () -> x.told(1), 100);
        Check.answers("shrunk by all", () -> x.line(0, 2), -1000);
        Check.answers("the - is too much", () -> Check.judge(x, 2), -1);
        LineSetter y = new LineSetter();
        Check.font(y, width('q', 0));
        Check.hyphens(y, "ends 11 b1q");
        Check.run(y, "abq", 1000);
        Check.answers("also without a glue", () -> y.set(1000, 0, 0, 1, 1), 1);
    }

    private static void badness() {
        Check.sentence("BADNESS: 100 r r r / 1000000000 of its size r, rounded down, at most 10000");
        int[][] stretched = {{0, 0}, {1, 0}, {215, 0}, {216, 1}, {271, 1}, {272, 2}, {500, 12}, {999, 99}, {1000, 100}, {1003, 100}, {1004, 101},
            {4640, 9989}, {4641, 9996}, {4642, 10000}, {4643, 10000}};
        for (int[] n : stretched) {
            LineSetter x = pair(ROOM - n[0], 2000);
            x.set(ROOM, 0, 0, 0, 10000);
            Check.answers("the ratio " + n[0], () -> x.line(0, 2), n[0]);
            Check.answers("its badness", () -> x.line(0, 7), n[1]);
        }
        int[][] shrunk = {{1, 0}, {215, 0}, {216, 1}, {500, 12}, {999, 99}, {1000, 100}};
        for (int[] n : shrunk) {
            LineSetter x = pair(ROOM + n[0], 3000);
            x.set(ROOM, 0, 0, 0, 10000);
            Check.answers("the ratio -" + n[0], () -> x.line(0, 2), -n[0]);
            Check.answers("its badness", () -> x.line(0, 7), n[1]);
        }
        LineSetter x = pair(9000, 0);
        x.set(ROOM, 0, 0, 0, 10000);
        Check.answers("the greatest ratio's", () -> x.line(0, 7), 10000);
    }

    private static long badnessOf(long ratio) {
        long r = Math.abs(ratio);
        return Math.min(10000, r * r * r / 10000000);
    }

    /** (10 + BADNESS) squared. */
    private static long costOf(long ratio) {
        return (10 + badnessOf(ratio)) * (10 + badnessOf(ratio));
    }

    private static void classAheadOfTheFirst() {
        Check.sentence("10000 more if its CLASS and that of the line before (1 ahead of the first) differ by more than 1");
        int[][] due = {{1000, 0, 0}, {1001, 10000, 10000}, {501, 0, 0}, {500, 0, 0}, {0, 0, 0}};
        for (int[] n : due) {
            LineSetter x = pair(ROOM - n[0], 2000);
            x.set(ROOM, 0, 0, 0, 10000);
            Check.answers("the first line's cost, ratio " + n[0], () -> x.line(0, 5), costOf(n[0]) + n[1]);
            Check.answers("the end's line behind it", () -> x.line(1, 5), 100 + n[2]);
            Check.answers("in all", () -> x.told(0), costOf(n[0]) + n[1] + 100 + n[2]);
        }
        for (int ratio : new int[] {-500, -501, -1000}) {
            LineSetter x = pair(ROOM - ratio, 3000);
            x.set(ROOM, 0, 0, 0, 10000);
            Check.answers("the first line's cost, ratio " + ratio, () -> x.line(0, 5), costOf(ratio));
            Check.answers("the end's line behind it", () -> x.line(1, 5), 100);
        }
    }

    /** N of a line with a glue of 3000 that has the ratio: A is 1500, Z 1000. */
    private static int naturalOf(int ratio) {
        return ratio < 0 ? ROOM - ratio : ROOM - (3 * ratio + 1) / 2;
    }

    /** Lines "a b" and "d e" of these ratios, then c, which fills a line. */
    private static LineSetter twoPairs(int first, int second) {
        LineSetter x = new LineSetter();
        Check.font(x, width('a', 5000) + width('b', naturalOf(first) - 8000) + width('d', 5000) + width('e', naturalOf(second) - 8000)
                + width(' ', 3000) + width('c', 1000));
        Check.run(x, "a b d e ", 1000);
        Check.run(x, "c", 10000);
        x.set(ROOM, 0, 0, 0, 10000);
        return x;
    }

    private static void classes() {
        Check.sentence("CLASS: 0 below -500, 1 to 500, 2 to 1000, 3 above");
        int[] ratios = {-1000, -501, -500, 0, 500, 501, 1000, 1001};
        int[] grades = {0, 0, 1, 1, 1, 2, 2, 3};
        for (int i = 0; i < 8; i++) {
            for (int k = 0; k < 8; k++) {
                LineSetter x = twoPairs(ratios[i], ratios[k]);
                long jumps = (grades[i] == 3 ? 1 : 0) + (Math.abs(grades[i] - grades[k]) > 1 ? 1 : 0) + (grades[k] == 3 ? 1 : 0);
                long due = costOf(ratios[i]) + costOf(ratios[k]) + 100 + 10000 * jumps;
                Check.answers("lines of the ratios " + ratios[i] + " and " + ratios[k], () -> Check.judge(x, 2, 4), due);
            }
        }
    }

    private static void classOfTooLong() {
        Check.sentence("the CLASS of a line that is TOO LONG is that of -1000");
        int[][] due = {{-1000, 0}, {0, 0}, {500, 0}, {501, 10000}, {1000, 10000}};
        for (int[] n : due) {
            LineSetter x = new LineSetter();
            Check.font(x, width('g', 1001) + width('a', 5000) + width('b', naturalOf(n[0]) - 8000) + width(' ', 3000) + width('c', 1000));
            Check.run(x, "g", 10000);
            Check.run(x, " a b ", 1000);
            Check.run(x, "c", 10000);
            x.set(ROOM, 0, 0, 0, 10000);
            Check.answers("a word too long, then the ratio " + n[0], () -> Check.judge(x, 1, 3),
                    WORST + 1000000010L + costOf(n[0]) + n[1] + 100);
        }
    }

    /** H, D and G: lines of 1500 that end at a HYPHEN, a DASH and a GLUE; one of 1500 to the END behind them. */
    private static long costOfEnds(String kinds) {
        StringBuilder text = new StringBuilder();
        int[] row = new int[kinds.length()];
        for (int i = 0; i < row.length; i++) {
            text.append(kinds.charAt(i) == 'H' ? "ba" : kinds.charAt(i) == 'D' ? "bb-" : "bbb ");
            row[i] = i + 1;
        }
        LineSetter x = new LineSetter();
        Check.hyphens(x, "ends 11 a1b");
        Check.run(x, text + "bbb", 1000);
        x.set(1500, 0, 0, 1, 1);
        Check.answers("breaks of " + kinds, () -> x.told(2), row.length + 1);
        return Check.judge(x, row);
    }

    private static void costAtHyphensAndDashes() {
        Check.sentence("2500 more at a HYPHEN, 900 at a DASH; 3000 more if the line and that before end so (HYPHEN or DASH); "
                + "5000 more for the line to the END behind one that ends so");
        String[] kinds = {"", "H", "D", "G", "HH", "HD", "HG", "DH", "DD", "DG", "GH", "GD", "GG", "HHH", "HDH", "HGH", "DGD", "DHD", "HGG", "GGH"};
        long[] due = {0, 2500 + 5000, 900 + 5000, 0, 5000 + 3000 + 5000, 3400 + 3000 + 5000, 2500, 3400 + 3000 + 5000, 1800 + 3000 + 5000, 900,
            2500 + 5000, 900 + 5000, 0, 7500 + 6000 + 5000, 5900 + 6000 + 5000, 5000 + 5000, 1800 + 5000, 4300 + 6000 + 5000, 2500, 2500 + 5000};
        for (int i = 0; i < kinds.length; i++) {
            Check.same("lines that end at " + kinds[i], costOfEnds(kinds[i]), due[i] + 100 * (kinds[i].length() + 1));
        }
    }

    private static void costOfTooLong() {
        Check.sentence("TOO LONG: 1000000000 and N - Z - L more");
        for (int room : new int[] {1000, 4998, 4999, 5000, 5001}) {
            LineSetter x = new LineSetter();
            Check.font(x, width('g', 5000));
            Check.run(x, "g", 1000);
            x.set(room, 0, 0, 0, 1);
            Check.answers("a word of 5000 in " + room, () -> x.told(0), room >= 5000 ? 100 : WORST + 1000000000 + 5000 - room);
        }
        LineSetter y = new LineSetter();
        Check.font(y, width('g', 5000) + width(' ', 302));
        Check.run(y, "g g", 1000);
        y.set(4999, 0, 0, 0, 1);
        Check.answers("with Z", () -> Check.judge(y), WORST + 1000000000 + 10302 - 100 - 4999);
        Check.answers("two of them", () -> Check.judge(y, 1), 2 * (WORST + 1000000001));
        y.set(4999, 0, 2, 0, 1);
        Check.answers("without Z", () -> Check.judge(y), WORST + 1000000000 + 10302 - 4999);
        LineSetter z = new LineSetter();
        Check.font(z, width('g', 5000));
        Check.run(z, "g", 1000);
        z.set(5000, 1, 0, 0, 1);
        Check.answers("by the indent", () -> z.told(0), WORST + 1000000001);
    }

    private static void tolerances() {
        Check.sentence("allowed by a tolerance if no line's BADNESS is above it");
        int[][] due = {{1000, 99, 10000}, {1000, 100, 100}, {1000, 101, 101}, {0, 1, 1}, {216, 1, 1}, {272, 1, 10000}, {272, 2, 2},
            {4641, 9995, 10000}, {4641, 9996, 9996}, {4642, 9999, 10000}, {4642, 10000, 10000}};
        for (int[] n : due) {
            LineSetter x = pair(ROOM - n[0], 2000);
            x.set(ROOM, 0, 0, 0, n[1]);
            Check.answers("the ratio " + n[0] + ", tolerance " + n[1], () -> x.told(1), n[2]);
            Check.answers("its lines", () -> x.told(3), 2);
        }
    }

    private static void toleranceOfEachLine() {
        Check.sentence("no line's BADNESS: the second's as well");
        LineSetter x = twoPairs(0, 1000);
        x.set(ROOM, 0, 0, 0, 100);
        Check.answers("the second is at it", () -> x.told(1), 100);
        x.set(ROOM, 0, 0, 0, 99);
        Check.answers("the second is above it", () -> x.told(1), 10000);
        LineSetter y = toEnd(11000, 3000);
        y.set(ROOM, 0, 0, 0, 100);
        Check.answers("the end's is at it", () -> y.told(1), 100);
        y.set(ROOM, 0, 0, 0, 99);
        Check.answers("the end's is above it", () -> y.told(1), 10000);
    }

    private static void toleranceAheadOfCost() {
        Check.sentence("taken is the first of tolerance, 10000 that allows one");
        LineSetter x = new LineSetter();
        Check.font(x, width('p', 2000) + width('q', 5000) + width('-', 2500));
        Check.run(x, "p q-r", 1000);
        x.set(ROOM, 0, 1, 0, 51);
        Check.answers("the cheaper row is allowed", () -> x.told(0), 61 * 61 + 100);
        Check.answers("by the tolerance", () -> x.told(1), 51);
        x.set(ROOM, 0, 1, 0, 50);
        Check.answers("the cheaper row is not allowed", () -> x.told(0), 100 + 900 + 100 + 5000);
        Check.answers("by the tolerance", () -> x.told(1), 50);
    }

    private static void toleranceNotEnough() {
        Check.sentence("else TOO LONG ones are allowed, too (TOLD 10001)");
        for (int tolerance : new int[] {1, 9999, 10000}) {
            LineSetter x = new LineSetter();
            Check.run(x, "aa b ccc", 1000);
            x.set(1499, 0, 0, 0, tolerance);
            Check.answers("tolerance " + tolerance, () -> x.told(1), 10001);
            x.set(1500, 0, 0, 0, tolerance);
            Check.answers("one more of width", () -> x.told(1), 10000);
        }
    }

    private static void noBreakIsLess() {
        Check.sentence("none at all is less");
        LineSetter x = new LineSetter();
        Check.font(x, width('a', 5000) + width('b', 1220) + width('c', 1299) + width(' ', 30));
        Check.run(x, "a", 1000);
        Check.run(x, " ", 100000);
        Check.run(x, "b c", 1000);
        x.set(ROOM, 0, 0, 0, 10000);
        Check.answers("two lines", () -> Check.judge(x, 2), 24 * 24 + 100);
        Check.answers("one line", () -> Check.judge(x), 26 * 26);
        Check.answers("cost the same", () -> x.told(0), 676);
        Check.answers("one is taken", () -> x.told(3), 1);
    }

    private static void lastBreakIsLeast() {
        Check.sentence("of several the one whose last BREAK ahead of the END is the least");
        LineSetter x = new LineSetter();
        Check.font(x, width('a', 4500) + width('b', 200) + width('c', 3000));
        Check.run(x, "aa b b c", 1000);
        x.set(ROOM + 900, 0, 1, 0, 10000);
        Check.answers("break 1", () -> Check.judge(x, 1), 200);
        Check.answers("break 2", () -> Check.judge(x, 2), 200);
        Check.answers("break 3", () -> Check.judge(x, 3), 200);
        Check.answers("is the least", () -> x.line(0, 1), 1);
        Check.answers("of two lines", () -> x.told(3), 2);
        LineSetter y = new LineSetter();
        Check.font(y, width('p', 499) + width('m', 1) + width('e', 998) + width(' ', 1));
        Check.run(y, "p m e", 10000);
        y.set(ROOM + 20, 0, 1, 0, 10000);
        Check.answers("break 1, behind a line of class 2", () -> Check.judge(y, 1), 22 * 22 + 100);
        Check.answers("break 2, behind a line of class 1", () -> Check.judge(y, 2), 22 * 22 + 100);
        Check.answers("is the least", () -> y.line(0, 1), 1);
    }

    private static void breakAheadOfTheLast() {
        Check.sentence("then the one ahead of that, and so on");
        LineSetter x = new LineSetter();
        Check.font(x, width('s', 4000) + width('m', 4000) + width('c', 1000));
        Check.run(x, "s m s ", 1000);
        Check.run(x, "c", 10000);
        x.set(ROOM, 0, 1, 0, 10000);
        Check.answers("breaks 1 and 3", () -> Check.judge(x, 1, 3), 31 * 31 + 200);
        Check.answers("breaks 2 and 3", () -> Check.judge(x, 2, 3), 31 * 31 + 200);
        Check.answers("the first is the least", () -> x.line(0, 1), 1);
        Check.answers("then 3", () -> x.line(1, 1), 3);
    }

    private static void tieOfManyLines() {
        Check.sentence("the last BREAK is compared first");
        LineSetter x = new LineSetter();
        Check.font(x, width('s', 4000) + width('m', 4000) + width('c', 1000));
        Check.run(x, "s m s ", 1000);
        Check.run(x, "c ", 10000);
        Check.run(x, "s m s ", 1000);
        Check.run(x, "c", 10000);
        x.set(ROOM, 0, 1, 0, 10000);
        int[][] rows = {{1, 3, 4, 5, 7}, {1, 3, 4, 6, 7}, {2, 3, 4, 5, 7}, {2, 3, 4, 6, 7}};
        for (int[] row : rows) {
            Check.answers("a row of six lines", () -> Check.judge(x, row), 2 * (31 * 31 + 200));
        }
        for (int j = 0; j < 5; j++) {
            int k = j;
            Check.answers("line " + j, () -> x.line(k, 1), rows[0][j]);
        }
        LineSetter y = new LineSetter();
        Check.font(y, width('s', 4500) + width('t', 200) + width('m', 600));
        Check.run(y, "ss t ss t m", 1000);
        y.set(ROOM + 600, 0, 1, 0, 10000);
        Check.answers("breaks 1 and 3", () -> Check.judge(y, 1, 3), 300);
        Check.answers("breaks 2 and 3", () -> Check.judge(y, 2, 3), 300);
        Check.answers("breaks 1 and 4", () -> Check.judge(y, 1, 4), 300);
        Check.answers("breaks 2 and 4", () -> Check.judge(y, 2, 4), 300);
        Check.answers("the least last one", () -> y.line(1, 1), 3);
        Check.answers("the least one ahead", () -> y.line(0, 1), 1);
    }

    private static void lineRange() {
        Check.sentence("Line j (from 0) of what was SET, what 0 .. 7");
        LineSetter x = new LineSetter();
        Check.run(x, "aa bb cc", 1000);
        x.set(1000, 0, 0, 0, 1);
        long[][] due = {{0, 1, 0, 1000, 0, 100, 1, 0}, {1, 2, 0, 1000, 0, 100, 1, 0}, {2, 3, 0, 1000, 0, 100, 1, 0}};
        for (int j = 0; j < 3; j++) {
            for (int what = 0; what < 8; what++) {
                int i = j;
                int k = what;
                Check.answers("line " + j + " " + what, () -> x.line(i, k), due[j][what]);
            }
        }
        for (int j : new int[] {-1, 3, 4, Integer.MIN_VALUE, Integer.MAX_VALUE}) {
            Check.refuses("line " + j, () -> x.line(j, 0), Check.IAE);
            Twins.refused("line " + j, Twins::busy, y -> y.line(j == 3 || j == 4 ? j + 20 : j, 0), Check.IAE);
        }
        for (int what : new int[] {-1, 8, Integer.MIN_VALUE, Integer.MAX_VALUE}) {
            Twins.refused("line what " + what, Twins::busy, y -> y.line(0, what), Check.IAE);
            Twins.refused("line what " + what + ", nothing set", Twins::unset, y -> y.line(0, what), Check.IAE);
        }
        Twins.refused("line -1, nothing set", Twins::unset, y -> y.line(-1, 0), Check.IAE);
        for (int what = 0; what < 8; what++) {
            int k = what;
            Twins.refused("line 0, nothing set", Twins::unset, y -> y.line(0, k), Check.ISE);
        }
    }

    private static void lineWords() {
        Check.sentence("6: how many WORDS begin in it (a part of one, too)");
        LineSetter x = new LineSetter();
        Check.hyphens(x, "ends 11 a1b");
        Check.run(x, "aabb c-d ee", 1000);
        x.set(1500, 0, 0, 1, 10000);
        String[] texts = {"aa-", "bb", "c-d", "ee"};
        for (int j = 0; j < 4; j++) {
            int k = j;
            Check.same("the text of line " + j, Check.text(x, j), texts[j]);
            Check.answers("the words of line " + j, () -> x.line(k, 6), 1);
        }
        x.set(1000000, 0, 0, 1, 1);
        Check.answers("all in one line", () -> x.line(0, 6), 3);
        LineSetter z = new LineSetter();
        Check.hyphens(z, "ends 11 a1b");
        Check.run(z, "aaaabb cc ddddd", 1000);
        z.set(2500, 0, 0, 1, 1);
        Check.answers("a word begins that ends in the next line", () -> z.line(0, 6), 1);
        Check.answers("the rest of it and another", () -> z.line(1, 6), 2);
        Check.answers("the last word", () -> z.line(2, 6), 1);
        LineSetter y = new LineSetter();
        Check.run(y, "a ".repeat(600), 1000);
        y.set(1000000, 0, 0, 0, 1);
        Check.answers("600 words", () -> y.line(0, 6), 600);
    }
}
