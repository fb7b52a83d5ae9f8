/** WORDS, PARTS, GLUES, BREAKS and promises 9 to 11, sentence by sentence at their bounds. At size 1000 a byte is 500 wide. */
public final class BreakEdgesTest {
    private static final int WIDE = 1000000;

    public static void main(String[] args) {
        words();
        dashes();
        hyphensAskedFor();
        rowsOfLetters();
        longestRow();
        partsMeet();
        sizesMeet();
        partAtLeastZero();
        glues();
        glueHalfAndThird();
        order();
        brokenHyphen();
        breakLimit();
        breakLimitMixed();
        setWidths();
        setNumbers();
        setWrongNumbers();
        setNoParagraph();
        setTooManyBreaks();
        setIsACopy();
        toldRange();
        toldWidest();
        toldOneLine();
        atRange();
        atSums();
        Check.done("BreakEdgesTest");
    }

    private static LineSetter of(String text) {
        return of(text, "");
    }

    private static LineSetter of(String text, String hyphens) {
        LineSetter x = new LineSetter();
        Check.hyphens(x, hyphens);
        Check.run(x, text, 1000);
        x.set(WIDE, 0, 0, 1, 1);
        return x;
    }

    /** The BREAKS, each as a letter for its kind and the bytes ahead of it. */
    private static String breaks(LineSetter x) {
        StringBuilder seen = new StringBuilder();
        for (int b = 1; b <= x.told(2); b++) {
            seen.append("GHDE".charAt((int) x.at(b, 0))).append(x.at(b, 1)).append(" ");
        }
        return seen.toString().trim();
    }

    private static void words() {
        Check.sentence("WORDS stand between blanks");
        Check.same("one byte", breaks(of("a")), "E1");
        Check.same("one word", breaks(of("abc")), "E3");
        Check.same("two words", breaks(of("a b")), "G1 E3");
        Check.same("three words", breaks(of(" ab \n c. 'd' ")), "G2 G5 E9");
        Check.same("one word of 4000 bytes", breaks(of("a".repeat(4000))), "E4000");
    }

    private static void dashes() {
        Check.sentence("A WORD is PARTED behind each - that is not its last byte (a DASH)");
        Check.same("a word of one -", breaks(of("-")), "E1");
        Check.same("of two", breaks(of("--")), "D1 E2");
        Check.same("of three", breaks(of("---")), "D1 D2 E3");
        Check.same("the first byte", breaks(of("-a")), "D1 E2");
        Check.same("the last byte", breaks(of("a-")), "E2");
        Check.same("the last but one", breaks(of("a-b")), "D2 E3");
        Check.same("the last byte of a word", breaks(of("a- b")), "G2 E4");
        Check.same("the first byte of a word", breaks(of("a -b")), "G1 D3 E4");
        Check.same("a word by itself", breaks(of("a - b")), "G1 G3 E5");
        Check.same("a - at the end and a blank that is none", breaks(of("a- ")), "E2");
        Check.same("two together in a word", breaks(of("a--b-c--")), "D2 D3 D5 D7 E8");
        Check.same("at the end of 4000 bytes", breaks(of("a".repeat(3999) + "-")), "E4000");
        Check.same("ahead of the end of 4000 bytes", breaks(of("a".repeat(3998) + "-a")), "D3999 E4000");
        LineSetter x = new LineSetter();
        Check.run(x, "a-", 1000);
        Check.run(x, "b", 2000);
        x.set(WIDE, 0, 0, 0, 1);
        Check.same("also without hyphens, and over two sizes", breaks(x), "D2 E3");
    }

    private static void hyphensAskedFor() {
        Check.sentence("if hyphens is 1, at the PLACES of each longest row of letters in it (a HYPHEN)");
        LineSetter x = of("ab ab-ab", "ends 11 a1b");
        Check.same("hyphens 1", breaks(x), "H1 G2 H4 D6 H7 E8");
        x.set(WIDE, 0, 0, 0, 1);
        Check.same("hyphens 0", breaks(x), "G2 D6 E8");
        x.set(WIDE, 0, 0, 1, 1);
        Check.same("hyphens 1 again", breaks(x), "H1 G2 H4 D6 H7 E8");
    }

    private static void rowsOfLetters() {
        Check.sentence("each longest row of letters");
        for (char b : new char[] {'!', '\'', '-', '.', '/', '0', '9', ':', '@', '[', '`', '{', '~'}) {
            String dash = b == '-' ? "D3 " : "";
            Check.same("rows on both sides of " + b, breaks(of("ab" + b + "ab", "ends 11 .a1b.")), "H1 " + dash + "H4 E5");
            Check.same("rows have ends there", breaks(of("aa" + b + "aa", "ends 12 1a")), b == '-' ? "D3 E5" : "E5");
        }
        Check.same("a row at the beginning and at the end", breaks(of("ab.xx.ab", "ends 11 .a1b.")), "H1 H7 E8");
        Check.same("capitals", breaks(of("AB Az zA", "ends 11 .a1b. =a-z =z-a")), "H1 G2 H4 G5 H7 E8");
        LineSetter x = new LineSetter();
        Check.hyphens(x, "ends 11 .a1b1c.");
        Check.run(x, "a", 1000);
        Check.run(x, "b", 2000);
        Check.run(x, "c", 1000);
        x.set(WIDE, 0, 0, 1, 1);
        Check.same("a row over sizes", breaks(x), "H1 H2 E3");
    }

    private static void longestRow() {
        Check.sentence("the longest row there can be: 4000 letters");
        Check.same("its first place", breaks(of("a".repeat(4000), "ends 11 .a1a")), "H1 E4000");
        Check.same("its last place", breaks(of("a".repeat(4000), "ends 11 a1a.")), "H3999 E4000");
        Check.same("its ends", breaks(of("a".repeat(4000), "ends 99 .aaaaaaaaa1a .aaaaaaaa1a a1aaaaaaaaa. a1aaaaaaaa.")), "H9 H3991 E4000");
        Check.same("exceptions are shorter", breaks(of("a".repeat(31), "ends 11 =a-" + "a".repeat(29))), "E31");
        Check.same("one of 30", breaks(of("a".repeat(30), "ends 11 =a-" + "a".repeat(29))), "H1 E30");
    }

    private static void partsMeet() {
        Check.sentence("Width of a PART: neighbours in it");
        LineSetter x = new LineSetter();
        Check.font(x, "join\"f\"\"f\"600;kern\"f\"\"f\"50;kern\"b\"\"f\"-100;kern\"-\"\"f\"70;join\"-\"\"g\"1;kern\"f\"\" \"9;kern\" \"\"f\"9;");
        Check.hyphens(x, "ends 11 f1f");
        Check.run(x, "bff b-f b-g f f", 1000);
        x.set(WIDE, 0, 0, 0, 1);
        Check.answers("a join in a part", () -> x.at(1, 2), 500 - 100 + 600);
        Check.answers("no kern behind a dash", () -> x.at(3, 2) - x.at(1, 2), 1000 + 500);
        Check.answers("no join behind a dash", () -> x.at(5, 2) - x.at(3, 2), 1000 + 500);
        Check.answers("no kern with a blank", () -> x.at(7, 2) - x.at(5, 2), 500 + 500);
        Check.answers("nor in the glue", () -> x.at(7, 3), 4 * 500);
        x.set(WIDE, 0, 0, 1, 1);
        Check.answers("no join and no kern over a hyphen", () -> x.at(2, 2), 500 - 100 + 500 + 500);
    }

    private static void sizesMeet() {
        Check.sentence("two neighbours of one size that have a join; kerns of neighbouring SIGNS of one size");
        for (int second : new int[] {1000, 1001, 2000}) {
            LineSetter x = new LineSetter();
            Check.font(x, "width\"a\"0;width\"b\"0;width\"c\"1000;width\"d\"1000;kern\"c\"\"d\"500;join\"a\"\"b\"1000;");
            Check.run(x, "a", 1000);
            Check.run(x, "b", second);
            Check.run(x, " c", 1000);
            Check.run(x, "d", second);
            x.set(WIDE, 0, 0, 0, 1);
            Check.answers("a join over sizes 1000 and " + second, () -> x.at(1, 2), second == 1000 ? 1000 : 0);
            Check.answers("a kern over them", () -> x.at(2, 2) - x.at(1, 2), 1000 + second + (second == 1000 ? 500 : 0));
        }
        LineSetter y = new LineSetter();
        Check.font(y, "join\"a\"\"b\"1000;kern\"b\"\"c\"100;");
        Check.run(y, "a", 1000);
        Check.run(y, "b", 1000);
        Check.run(y, "c", 1000);
        y.set(WIDE, 0, 0, 0, 1);
        Check.answers("runs of one size are as one", () -> y.told(5), 1000 + 100 + 500);
    }

    private static void partAtLeastZero() {
        Check.sentence("Width of a PART: in all at least 0");
        LineSetter x = new LineSetter();
        Check.font(x, "width\"q\"0;kern\"q\"\"q\"-500;");
        Check.run(x, "qq qqa a-qq-qqaa", 1000);
        x.set(WIDE, 0, 0, 0, 1);
        long[] due = {0, 0, 1000, 1000, 1500};
        for (int b = 1; b <= due.length; b++) {
            int k = b;
            Check.answers("up to break " + b, () -> x.at(k, 2), due[b - 1]);
        }
    }

    private static void glues() {
        Check.sentence("GLUE between WORDS: the width of byte 32 in the blank's size");
        LineSetter x = new LineSetter();
        Check.font(x, "width\" \"333;");
        Check.run(x, "a ", 1999);
        Check.run(x, "b", 5000);
        Check.run(x, " ", 3001);
        Check.run(x, "c d", 1000);
        x.set(WIDE, 0, 0, 0, 1);
        Check.answers("665.667", () -> x.at(1, 3), 665);
        Check.answers("999.333", () -> x.at(2, 3), 665 + 999);
        Check.answers("333", () -> x.at(3, 3), 665 + 999 + 333);
        Check.answers("the end has none", () -> x.at(4, 3), 665 + 999 + 333);
    }

    /** The RATIO of a line of words of 1000 and glues: what is behind it is as wide as the room, so it is a line by itself. 0: it is none. */
    private static long ratioBy(int words, int glue, int more) {
        int room = words * 1000 + (words - 1) * glue + more;
        LineSetter x = new LineSetter();
        Check.font(x, "width\"a\"1000;width\" \"" + glue + ";width\"c\"" + room + ";");
        Check.run(x, "a ".repeat(words) + "c", 1000);
        x.set(room, 0, 0, 0, 10000);
        return x.line(0, 1) == words ? x.line(0, 2) : 0;
    }

    private static void glueHalfAndThird() {
        Check.sentence("stretch a half, shrink a third of it, rounded down");
        int[][] stretched = {{0, 1, 100000}, {1, 1, 100000}, {2, 1, 1000}, {3, 1, 1000}, {4, 1, 500}, {5, 1, 500}, {6, 1, 333}, {1999, 999, 1000}};
        for (int[] n : stretched) {
            Check.same("half of " + n[0], ratioBy(2, n[0], n[1]), (long) n[2]);
        }
        int[][] shrunk = {{0, 1, 0}, {2, 1, 0}, {3, 1, -1000}, {5, 1, -1000}, {6, 1, -500}, {8, 1, -500}, {9, 1, -334}, {2000, 666, -1000}, {2000, 667, 0}};
        for (int[] n : shrunk) {
            Check.same("a third of " + n[0], ratioBy(2, n[0], -n[1]), (long) n[2]);
        }
        Check.same("a half of each of two", ratioBy(3, 5, 4), 1000L);
        Check.same("a third of each of two", ratioBy(3, 5, -2), -1000L);
        Check.same("not a third of both", ratioBy(3, 5, -3), 0L);
    }

    private static void order() {
        Check.sentence("BREAKS are numbered from 1 on: GLUES, HYPHENS, DASHES in order; the last one is the END");
        Check.same("all kinds", breaks(of("ab-ab ab -ab ab", "ends 11 a1b")), "H1 D3 H4 G5 H7 G8 D10 H11 G12 H14 E15");
        Check.same("the end alone", breaks(of("x")), "E1");
    }

    private static void brokenHyphen() {
        Check.sentence("At a HYPHEN that is broken the line has a - more, of the size of the byte ahead");
        LineSetter x = new LineSetter();
        Check.font(x, "width\"-\"333;kern\"a\"\"-\"400;join\"a\"\"-\"1;kern\"-\"\"b\"50;");
        Check.hyphens(x, "ends 11 a1b");
        Check.run(x, "a", 1999);
        Check.run(x, "b", 3000);
        Check.answers("it is broken", () -> x.set(1664, 0, 0, 1, 1), 2);
        Check.answers("its line", () -> x.line(0, 3), 999 + 665);
        Check.answers("the line behind", () -> x.line(1, 3), 1500);
        Check.answers("with its -", () -> x.text(0), 2);
        Check.answers("it is not broken", () -> x.set(3000, 0, 0, 1, 1), 1);
        Check.answers("the line has none then", () -> x.line(0, 3), 999 + 1500);
        Check.answers("nor its text", () -> x.text(0), 2);
        Check.same("which is the word", Check.out(x), "ab");
    }

    private static LineSetter unset(String text, String hyphens) {
        LineSetter x = new LineSetter();
        Check.hyphens(x, hyphens);
        Check.run(x, text, 1000);
        return x;
    }

    private static void limit(String what, LineSetter x, int breaks) {
        if (breaks <= 600) {
            Check.answers(breaks + " breaks by " + what, () -> x.set(WIDE, 0, 0, 1, 1), 1);
            Check.answers("they are as many", () -> x.told(2), breaks);
            Check.answers("the last is the end", () -> x.at(breaks, 0), 3);
        } else {
            Check.refuses(breaks + " breaks by " + what, () -> x.set(WIDE, 0, 0, 1, 1), Check.IOOBE);
            Check.refuses("nothing is set", () -> x.told(2), Check.ISE);
        }
    }

    private static void breakLimit() {
        Check.sentence("more than 600 BREAKS: IndexOutOfBoundsException");
        for (int n : new int[] {599, 600, 601, 700}) {
            limit("words", unset("a ".repeat(n), ""), n);
            limit("dashes", unset("a-".repeat(n), ""), n);
            limit("hyphens", unset("a".repeat(n), "ends 11 1a"), n);
            limit("hyphens at the ends", unset("a".repeat(n + 16), "ends 99 1a"), n);
        }
        limit("dashes, as many as there can be", unset("-".repeat(4000), ""), 4000);
        limit("words, as many as there can be", unset("a ".repeat(2000), ""), 2000);
        limit("hyphens, as many as there can be", unset("a".repeat(4000), "ends 11 1a"), 4000);
    }

    private static void breakLimitMixed() {
        Check.sentence("more than 600 BREAKS of all kinds");
        limit("all kinds", unset("a-aa ".repeat(200), "ends 11 1a"), 600);
        limit("all kinds", unset("a-aa ".repeat(200) + "a", "ends 11 1a"), 601);
        limit("all kinds", unset("a-aa ".repeat(199) + "a-a", "ends 11 1a"), 599);
        LineSetter x = unset("a".repeat(601), "ends 11 1a");
        Check.refuses("601 with hyphens", () -> x.set(WIDE, 0, 0, 1, 1), Check.IOOBE);
        Check.answers("hyphens that are not asked for do not count", () -> x.set(WIDE, 0, 0, 0, 1), 1);
        LineSetter y = unset("a ".repeat(600), "");
        Check.answers("600 lines", () -> y.set(1000, 0, 1, 0, 1), 600);
        Check.answers("the last of them", () -> y.line(599, 0), 599);
        Check.refuses("no 601st", () -> y.line(600, 0), Check.IAE);
    }

    private static void setWidths() {
        Check.sentence("set: width 1000 .. 1000000");
        LineSetter x = unset("a".repeat(2000) + " b", "");
        Check.answers("width 1000000", () -> x.set(1000000, 0, 1, 0, 1), 2);
        Check.answers("its first line", () -> x.line(0, 2), 0);
        Check.answers("which is as wide", () -> x.line(0, 3), 1000000);
        Check.answers("width 999999", () -> x.set(999999, 0, 1, 0, 1), 2);
        Check.answers("its first line is too long", () -> x.line(0, 2), -1000);
        LineSetter y = unset("aa b", "");
        Check.answers("width 1000", () -> y.set(1000, 0, 1, 0, 1), 2);
        Check.answers("its first line", () -> y.line(0, 2), 0);
        Check.answers("width 1001", () -> y.set(1001, 0, 2, 0, 1), 2);
        Check.answers("its first word", () -> y.line(0, 4), 1);
    }

    private static void setNumbers() {
        Check.sentence("indent 0 .. 500000, align 0 just, 1 left, 2 right, 3 middle, hyphens 0, 1, tolerance 1 .. 10000");
        int[][] right = {{1000, 0, 0, 0, 1}, {1000000, 500000, 3, 1, 10000}, {999999, 499999, 2, 1, 9999}, {1001, 1, 1, 0, 2}};
        for (int[] n : right) {
            LineSetter x = unset("a", "");
            Check.answers("set " + n[0], () -> x.set(n[0], n[1], n[2], n[3], n[4]), 1);
            Check.answers("its tolerance", () -> x.told(1), n[4]);
            Check.answers("its indent", () -> x.line(0, 4) - n[1], n[2] < 2 ? 0 : (n[0] - n[1] - 500) / (n[2] - 1));
        }
    }

    private static void setWrongNumbers() {
        Check.sentence("IllegalArgumentException: a number out of range (set)");
        int[] right = {3000, 0, 0, 1, 100};
        int[][] wrong = {{999, 1000001}, {-1, 500001}, {-1, 4}, {-1, 2}, {0, 10001}};
        for (int i = 0; i < 5; i++) {
            for (int number : new int[] {wrong[i][0], wrong[i][1], Integer.MIN_VALUE, Integer.MAX_VALUE}) {
                int[] n = right.clone();
                n[i] = number;
                Twins.refused("set with number " + i + " " + number, Twins::busy, x -> x.set(n[0], n[1], n[2], n[3], n[4]), Check.IAE);
                Twins.refused("set of nothing with number " + i + " " + number, Twins::unset, x -> x.set(n[0], n[1], n[2], n[3], n[4]), Check.IAE);
            }
        }
    }

    private static LineSetter cleared() {
        LineSetter x = Twins.busy();
        x.clear();
        return x;
    }

    private static void setNoParagraph() {
        Check.sentence("it is none: IllegalStateException");
        Twins.refused("set of nothing", Twins::unset, x -> x.set(3000, 0, 0, 1, 100), Check.ISE);
        Twins.refused("set of nothing, something being set", BreakEdgesTest::cleared, x -> x.set(3000, 0, 0, 1, 100), Check.ISE);
    }

    private static LineSetter crowded(String text) {
        LineSetter x = Twins.busy();
        x.end(0);
        x.clear();
        Check.run(x, text, 1000);
        return x;
    }

    private static void setTooManyBreaks() {
        Check.sentence("more than 600 BREAKS: what was SET stays");
        for (String text : new String[] {"-".repeat(601), "z ".repeat(601), "b".repeat(23) + "-".repeat(601)}) {
            LineSetter x = crowded(text);
            String before = Twins.setting(x);
            Check.refuses("set", () -> x.set(3000, 0, 0, 1, 100), Check.IOOBE);
            Check.same("what was set", Twins.setting(x), before);
            Check.answers("the tape", () -> x.count(0), 0);
            Check.answers("the place", x::place, -1);
        }
        LineSetter y = crowded("-".repeat(601));
        Check.outcome(() -> y.set(3000, 0, 0, 1, 100));
        Check.answers("the paragraph", () -> y.count(2), 601);
        y.clear();
        Check.run(y, "a", 1000);
        Check.answers("a later set", () -> y.set(3000, 0, 0, 1, 100), 1);
        Check.answers("its breaks", () -> y.told(2), 1);
    }

    private static void setIsACopy() {
        Check.sentence("font, hyphens, run, clear: what was SET stays as it was");
        Twins.Ask[] calls = {
            x -> Check.font(x, "width\"a\"1;width\" \"1;width\"-\"1;width\"b\"1;").length(),
            x -> Check.font(x, "").length(),
            x -> Check.hyphens(x, "ends 11 1a 1b 1f 1i").length(),
            x -> Check.hyphens(x, "").length(),
            x -> Check.run(x, "more words", 9000),
            LineSetter::clear,
            x -> x.clear() + Check.run(x, "zzzz zz-zz", 5000)};
        for (Twins.Ask call : calls) {
            LineSetter x = Twins.busy();
            LineSetter y = Twins.busy();
            x.end(0);
            call.of(x);
            Check.same("what was set", Twins.setting(x), Twins.setting(y));
        }
        LineSetter z = Twins.busy();
        String before = Twins.setting(z);
        z.set(2000, 0, 3, 0, 100);
        Check.same("set makes it another", Twins.setting(z).equals(before), false);
    }

    private static void toldRange() {
        Check.sentence("told: what 0 .. 5");
        for (int what : new int[] {-1, 6, Integer.MIN_VALUE, Integer.MAX_VALUE}) {
            Twins.refused("told " + what, Twins::busy, x -> x.told(what), Check.IAE);
            Twins.refused("told " + what + ", nothing set", Twins::unset, x -> x.told(what), Check.IAE);
        }
        for (int what = 0; what <= 5; what++) {
            int k = what;
            Twins.refused("told " + what + ", nothing set", Twins::unset, x -> x.told(k), Check.ISE);
        }
        LineSetter x = of("ab cde");
        long[] due = {100, 1, 2, 1, 1500, 3000};
        for (int what = 0; what <= 5; what++) {
            int k = what;
            Check.answers("told " + what, () -> x.told(k), due[what]);
        }
    }

    private static void toldWidest() {
        Check.sentence("4 the width of the widest PART (with its - at HYPHENS)");
        Check.answers("with its -", () -> of("aab", "ends 11 a1b").told(4), 1500);
        Check.answers("the part behind is as wide", () -> of("abbb", "ends 11 a1b").told(4), 1500);
        Check.answers("the part behind is wider", () -> of("abbbb", "ends 11 a1b").told(4), 2000);
        Check.answers("a - that is there", () -> of("aaa-b").told(4), 2000);
        Check.answers("the first of three words", () -> of("aaa bb c").told(4), 1500);
        Check.answers("the last of three words", () -> of("a bb ccc").told(4), 1500);
        LineSetter x = new LineSetter();
        Check.font(x, "width\"a\"0;");
        Check.run(x, "a a", 1000);
        x.set(1000, 0, 0, 0, 1);
        Check.answers("all of no width", () -> x.told(4), 0);
        LineSetter y = of("aaaaaaaa");
        y.set(1000, 0, 0, 0, 1);
        y.clear();
        Check.run(y, "a", 1000);
        for (int i = 0; i < 2; i++) {
            y.set(1000, 0, 0, 0, 1);
            Check.answers("nothing of what was set before", () -> y.told(4), 500);
        }
    }

    private static void toldOneLine() {
        Check.sentence("5 the width in one line");
        Check.answers("without a - of hyphens", () -> of("aab", "ends 11 a1b").told(5), 1500);
        Check.answers("with glues", () -> of("a b-c d").told(5), 3500);
        Check.answers("without a blank at the end", () -> of("a b ").told(5), 1500);
        LineSetter x = new LineSetter();
        Check.font(x, "width\"g\"5000;");
        Check.run(x, "g".repeat(4000), 100000);
        x.set(1000000, 0, 0, 0, 1);
        Check.answers("the widest of all", () -> x.told(5), 2000000000L);
        Check.answers("and its cost", () -> x.told(0), 10010L * 10010 + 1000000000 + 1999000000);
        LineSetter y = of("a bb");
        y.set(1000, 0, 0, 0, 1);
        Check.answers("whatever the lines are", () -> y.told(5), 2000);
    }

    private static void atRange() {
        Check.sentence("BREAK b (1 .. BREAKS) of what was SET");
        LineSetter x = of("a b c");
        Check.answers("break 1", () -> x.at(1, 1), 1);
        Check.answers("break 3", () -> x.at(3, 1), 5);
        for (int b : new int[] {0, 4, -1, 601, Integer.MIN_VALUE, Integer.MAX_VALUE}) {
            Check.refuses("break " + b, () -> x.at(b, 0), Check.IAE);
        }
        for (int what : new int[] {-1, 4, Integer.MIN_VALUE, Integer.MAX_VALUE}) {
            Twins.refused("at what " + what, Twins::busy, y -> y.at(1, what), Check.IAE);
            Twins.refused("at what " + what + ", nothing set", Twins::unset, y -> y.at(1, what), Check.IAE);
        }
        for (int b : new int[] {0, -1, 700, Integer.MIN_VALUE, Integer.MAX_VALUE}) {
            Twins.refused("at break " + b, Twins::busy, y -> y.at(b, 0), Check.IAE);
        }
        Twins.refused("at break 0, nothing set", Twins::unset, y -> y.at(0, 0), Check.IAE);
        for (int what = 0; what < 4; what++) {
            int k = what;
            Twins.refused("at 1 " + what + ", nothing set", Twins::unset, y -> y.at(1, k), Check.ISE);
        }
    }

    private static void atSums() {
        Check.sentence("1: how many bytes are ahead of it; 2: the widths of all PARTS up to it together; 3: of all GLUES up to it (itself, too)");
        LineSetter x = of("ab c-d", "ends 11 a1b");
        long[][] due = {{1, 1, 500, 0}, {0, 2, 1000, 500}, {2, 5, 2000, 500}, {3, 6, 2500, 500}};
        for (int b = 1; b <= 4; b++) {
            for (int what = 0; what < 4; what++) {
                int i = b;
                int k = what;
                Check.answers("at " + b + " " + what, () -> x.at(i, k), due[b - 1][what]);
            }
        }
    }
}
