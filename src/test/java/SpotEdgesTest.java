/** Where WORDS stand, and promises 13 and 14: sentence by sentence at their bounds. */
public final class SpotEdgesTest {
    public static void main(String[] args) {
        stretched();
        laterLines();
        stretchedWithoutStretch();
        shrunk();
        justFull();
        toTheEnd();
        tooLong();
        left();
        right();
        middle();
        tooLongRightAndMiddle();
        indented();
        parts();
        spotRange();
        textOfLines();
        textAtBreaks();
        textRange();
        Check.done("SpotEdgesTest");
    }

    private static void spots(String what, LineSetter x, int j, long... due) {
        Check.answers(what + ": words of line " + j, () -> x.line(j, 6), due.length);
        Check.answers(what + ": the beginning of line " + j, () -> x.line(j, 4), due[0]);
        for (int w = 0; w < due.length; w++) {
            int k = w;
            Check.answers(what + ": word " + w + " of line " + j, () -> x.spot(j, k), due[w]);
        }
        Check.refuses(what + ": a word more", () -> x.spot(j, due.length), Check.IOOBE);
    }

    /** "a a a" with glues of 301 and 602 (stretch 150 and 301, shrink 100 and 200), N 2403, then c as wide as the room. */
    private static LineSetter three(int room) {
        LineSetter x = new LineSetter();
        Check.font(x, "width\" \"301;width\"c\"" + room + ";");
        Check.run(x, "a ", 1000);
        Check.run(x, "a", 1000);
        Check.run(x, " ", 2000);
        Check.run(x, "a c", 1000);
        return x;
    }

    private static void stretched() {
        Check.sentence("behind its first j GLUES all is moved by (L - N) * a / A rounded down, a being their stretch");
        int[][] due = {{2403, 0, 0}, {2404, 0, 1}, {2406, 0, 3}, {2407, 1, 4}, {2409, 1, 6}, {2410, 2, 7}, {2503, 33, 100}, {2854, 150, 451}, {3304, 299, 901}};
        for (int[] n : due) {
            LineSetter x = three(n[0]);
            x.set(n[0], 0, 0, 0, 10000);
            spots("room " + n[0], x, 0, 0, 801 + n[1], 1903 + n[2]);
        }
    }

    /** c, then "a a a" of three, then c: the glues ahead of a line do not count in it. */
    private static LineSetter later(int room) {
        LineSetter x = new LineSetter();
        Check.font(x, "width\" \"301;width\"c\"" + room + ";");
        Check.run(x, "c a ", 1000);
        Check.run(x, "a", 1000);
        Check.run(x, " ", 2000);
        Check.run(x, "a ", 1000);
        Check.run(x, "c c", 1000);
        return x;
    }

    private static void laterLines() {
        Check.sentence("its first j GLUES: of a line behind others");
        for (int room : new int[] {2503, 2403, 2303}) {
            int by = room - 2403;
            LineSetter x = later(room);
            for (int align = 0; align < 4; align++) {
                x.set(room, 0, align, 0, 10000);
                if (align == 0) {
                    spots("room " + room, x, 1, 0, 801 + (by < 0 ? by * 100 / 300 : by * 150 / 451), 1903 + by);
                } else if (by >= 0) {
                    long left = align == 1 ? 0 : align == 2 ? by : by / 2;
                    spots("room " + room + ", align " + align, x, 1, left, left + 801, left + 1903);
                }
                spots("the line ahead", x, 0, 0);
            }
        }
    }

    private static void stretchedWithoutStretch() {
        Check.sentence("nothing is moved if A is 0");
        LineSetter x = new LineSetter();
        Check.font(x, "width\" \"1;width\"c\"2000;");
        Check.run(x, "a a c", 1000);
        x.set(2000, 0, 0, 0, 10000);
        spots("glues of 1", x, 0, 0, 501);
        LineSetter y = new LineSetter();
        Check.font(y, "width\" \"2;width\"c\"2000;");
        Check.run(y, "a a c", 1000);
        y.set(2000, 0, 0, 0, 10000);
        spots("glues of 2", y, 0, 0, 1500);
    }

    private static void shrunk() {
        Check.sentence("or back by (N - L) * z / Z, rounded down, z their shrink");
        int[][] due = {{2403, 0, 0}, {2402, 0, 1}, {2401, 0, 2}, {2400, 1, 3}, {2398, 1, 5}, {2397, 2, 6}, {2303, 33, 100}, {2104, 99, 299}, {2103, 100, 300}};
        for (int[] n : due) {
            LineSetter x = three(n[0]);
            x.set(n[0], 0, 0, 0, 10000);
            spots("room " + n[0], x, 0, 0, 801 - n[1], 1903 - n[2]);
        }
    }

    private static void justFull() {
        Check.sentence("N = L: all stands as it is");
        for (int align = 0; align < 4; align++) {
            LineSetter x = three(2403);
            x.set(2403, 0, align, 0, 10000);
            spots("align " + align, x, 0, 0, 801, 1903);
        }
    }

    private static void toTheEnd() {
        Check.sentence("one to the END only if N is above L");
        int[][] due = {{5000, 0}, {2501, 0}, {2500, 0}, {2499, 1}, {2400, 100}, {2334, 166}};
        for (int[] n : due) {
            LineSetter x = new LineSetter();
            Check.run(x, "aa aa", 1000);
            x.set(n[0], 0, 0, 0, 10000);
            spots("room " + n[0], x, 0, 0, 1500 - n[1]);
        }
    }

    private static void tooLong() {
        Check.sentence("(TOO LONG: z)");
        LineSetter y = new LineSetter();
        Check.font(y, "width\"g\"5000;width\" \"301;");
        Check.run(y, "g ", 1000);
        Check.run(y, "g", 1000);
        Check.run(y, " ", 2000);
        Check.run(y, "g", 1000);
        y.set(1000, 0, 0, 0, 1);
        Check.answers("all in one line", () -> y.told(3), 1);
        spots("too long", y, 0, 0, 5301 - 100, 10903 - 300);
        y.set(1000, 700, 0, 0, 1);
        spots("too long, indented", y, 0, 700, 700 + 5301 - 100, 700 + 10903 - 300);
        y.set(1000, 0, 1, 0, 1);
        spots("too long, left", y, 0, 0, 5301, 10903);
    }

    private static void left() {
        Check.sentence("left: nothing is moved");
        for (int room : new int[] {2403, 2404, 3000, 4000}) {
            LineSetter x = three(room);
            x.set(room, 0, 1, 0, 10000);
            spots("room " + room, x, 0, 0, 801, 1903);
        }
    }

    private static void right() {
        Check.sentence("right: L - N to the right");
        for (int room : new int[] {2403, 2404, 2405, 3000, 4000}) {
            LineSetter x = three(room);
            x.set(room, 0, 2, 0, 10000);
            long by = room - 2403;
            spots("room " + room, x, 0, by, 801 + by, 1903 + by);
            spots("the word that fills a line", x, 1, 0);
        }
        LineSetter y = new LineSetter();
        Check.run(y, "a b", 1000);
        y.set(1501, 0, 2, 0, 1);
        spots("the line to the end", y, 0, 1, 1001);
    }

    private static void middle() {
        Check.sentence("middle: half of it, rounded down, if N is below L");
        int[][] due = {{2403, 0}, {2404, 0}, {2405, 1}, {2406, 1}, {2407, 2}, {3000, 298}};
        for (int[] n : due) {
            LineSetter x = three(n[0]);
            x.set(n[0], 0, 3, 0, 10000);
            spots("room " + n[0], x, 0, n[1], 801 + n[1], 1903 + n[1]);
        }
        LineSetter y = new LineSetter();
        Check.run(y, "a b", 1000);
        y.set(1503, 0, 3, 0, 1);
        spots("the line to the end", y, 0, 1, 1001);
    }

    private static void tooLongRightAndMiddle() {
        Check.sentence("right, middle: if N is below L");
        for (int align : new int[] {2, 3}) {
            LineSetter x = new LineSetter();
            Check.run(x, "aaa", 1000);
            x.set(1500, 0, align, 0, 1);
            spots("N = L, align " + align, x, 0, 0);
            x.set(1499, 0, align, 0, 1);
            spots("N = L + 1, align " + align, x, 0, 0);
            x.set(1000, 0, align, 0, 1);
            spots("N far above L, align " + align, x, 0, 0);
            x.set(2000, 501, align, 0, 1);
            spots("above the first line's L, align " + align, x, 0, 501);
            x.set(2000, 500, align, 0, 1);
            spots("the first line's L, align " + align, x, 0, 500);
            x.set(2000, 498, align, 0, 1);
            spots("below the first line's L, align " + align, x, 0, align == 2 ? 500 : 499);
        }
    }

    private static void indented() {
        Check.sentence("4: where its first WORD begins (indent too; right, middle as told)");
        long[] due = {300, 300, 397, 348};
        for (int align = 0; align < 4; align++) {
            LineSetter x = three(2800);
            x.set(2800, 300, align, 0, 10000);
            long first = due[align];
            Check.answers("align " + align, () -> x.line(0, 4), first);
            Check.answers("the second line has none, align " + align, () -> x.line(1, 4), 0);
            long moved = align == 0 ? 97 : 0;
            spots("align " + align, x, 0, first, first + 801 + moved * 150 / 451, first + 1903 + moved);
        }
    }

    private static void parts() {
        Check.sentence("the w-th WORD (from 0) of line j: a part of one, too");
        LineSetter y = new LineSetter();
        Check.hyphens(y, "ends 11 a1b");
        Check.run(y, "aaaabb cc ddddd", 1000);
        y.set(2500, 0, 0, 1, 1);
        spots("a word's beginning", y, 0, 0);
        spots("a word's rest and another", y, 1, 0, 1500);
        spots("the last", y, 2, 0);
        LineSetter z = new LineSetter();
        Check.run(z, "a-b c-d-e f", 1000);
        z.set(1000000, 0, 0, 0, 1);
        spots("words that could be parted", z, 0, 0, 2000, 5000);
    }

    private static void spotRange() {
        Check.sentence("it has none such: IndexOutOfBoundsException");
        LineSetter x = new LineSetter();
        Check.run(x, "a b c", 1000);
        x.set(1000000, 0, 0, 0, 1);
        Check.answers("the first", () -> x.spot(0, 0), 0);
        Check.answers("the last", () -> x.spot(0, 2), 2000);
        for (int w : new int[] {-1, 3, 4, 600, Integer.MIN_VALUE, Integer.MAX_VALUE}) {
            Check.refuses("word " + w, () -> x.spot(0, w), Check.IOOBE);
        }
        for (int w : new int[] {-1, 20, Integer.MIN_VALUE, Integer.MAX_VALUE}) {
            Twins.refused("spot of word " + w, Twins::busy, y -> y.spot(0, w), Check.IOOBE);
        }
        for (int j : new int[] {-1, 1, Integer.MIN_VALUE, Integer.MAX_VALUE}) {
            Check.refuses("a word of line " + j, () -> x.spot(j, 0), Check.IAE);
            Check.refuses("no word of line " + j, () -> x.spot(j, 9), Check.IAE);
            Twins.refused("spot of line " + j, Twins::busy, y -> y.spot(j == 1 ? 30 : j, 0), Check.IAE);
        }
        Twins.refused("spot while nothing is set", Twins::unset, y -> y.spot(0, 0), Check.ISE);
        Twins.refused("spot of no word while nothing is set", Twins::unset, y -> y.spot(0, -1), Check.ISE);
        Twins.refused("spot of line -1 while nothing is set", Twins::unset, y -> y.spot(-1, 0), Check.IAE);
        LineSetter z = new LineSetter();
        Check.run(z, "a ".repeat(600), 1000);
        z.set(1000000, 0, 0, 0, 1);
        Check.answers("the last of 600", () -> z.spot(0, 599), 599000);
        Check.refuses("no 601st", () -> z.spot(0, 600), Check.IOOBE);
    }

    private static void textOfLines() {
        Check.sentence("OUT is line j. Answers how many bytes");
        LineSetter x = new LineSetter();
        Check.run(x, "aa bb\n cccc d", 1000);
        x.set(2500, 0, 0, 0, 10000);
        Check.answers("line 0", () -> x.text(0), 5);
        Check.same("its text", Check.out(x), "aa bb");
        Check.answers("line 1", () -> x.text(1), 4);
        Check.same("its text", Check.out(x), "cccc");
        Check.answers("the length of OUT", () -> x.count(1), 4);
        Check.answers("line 2", () -> x.text(2), 1);
        Check.same("its text", Check.out(x), "d");
    }

    private static void textAtBreaks() {
        Check.sentence("with a - more at a HYPHEN");
        LineSetter x = new LineSetter();
        Check.hyphens(x, "ends 11 a1b");
        Check.run(x, "aabb-bbb bbb", 1000);
        x.set(1500, 0, 0, 1, 1);
        String[] due = {"aa-", "bb-", "bbb", "bbb"};
        for (int j = 0; j < 4; j++) {
            int k = j;
            Check.answers("bytes of line " + j, () -> x.text(k), 3);
            Check.same("line " + j, Check.out(x), due[j]);
        }
        x.set(1000000, 0, 0, 1, 1);
        Check.same("none if it is not broken", Check.text(x, 0), "aabb-bbb bbb");
    }

    private static void textRange() {
        Check.sentence("text: line j of what was SET");
        LineSetter x = new LineSetter();
        Check.run(x, "aa bb", 1000);
        x.set(1000, 0, 0, 0, 1);
        x.text(1);
        for (int j : new int[] {-1, 2, 3, Integer.MIN_VALUE, Integer.MAX_VALUE}) {
            Check.refuses("text of line " + j, () -> x.text(j), Check.IAE);
            Check.same("OUT stays", Check.out(x), "bb");
            Twins.refused("text of line " + j, Twins::busy, y -> y.text(j == 2 || j == 3 ? j + 30 : j), Check.IAE);
        }
        Twins.refused("text while nothing is set", Twins::unset, y -> y.text(0), Check.ISE);
        Twins.refused("text of line -1 while nothing is set", Twins::unset, y -> y.text(-1), Check.IAE);
    }
}
