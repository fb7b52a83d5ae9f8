/** Promises 9 to 14: set, told, at, line, spot, text. At size 1000 a byte is 500 wide, a GLUE 500, 250, 166. */
public final class SettingTest {
    private static final String SEVENTEEN = "aaaaaaaaaaaaaaaaa";

    public static void main(String[] args) {
        oneLine();
        shrinks();
        tooLong();
        tooLongWithGlue();
        longRatio();
        hyphens();
        dashes();
        hyphensInRows();
        longRows();
        hyphenTooLong();
        partWidths();
        gluesAndSizes();
        classes();
        tolerances();
        ties();
        indents();
        aligns();
        wrongNumbers();
        refusedSetKeepsTheOld();
        setKeepsACopy();
        manyBreaks();
        Check.done("SettingTest");
    }

    private static LineSetter of(String text) {
        LineSetter x = new LineSetter();
        Check.run(x, text, 1000);
        return x;
    }

    private static void told(String what, LineSetter x, long... due) {
        for (int n = 0; n < due.length; n++) {
            int k = n;
            Check.answers(what + ": told " + n, () -> x.told(k), due[n]);
        }
    }

    private static void line(String what, LineSetter x, int j, long... due) {
        for (int n = 0; n < due.length; n++) {
            int k = n;
            Check.answers(what + ": line " + j + " " + n, () -> x.line(j, k), due[n]);
        }
    }

    private static void at(String what, LineSetter x, int b, long... due) {
        for (int n = 0; n < due.length; n++) {
            int k = n;
            Check.answers(what + ": at " + b + " " + n, () -> x.at(b, k), due[n]);
        }
    }

    private static void oneLine() {
        LineSetter x = of("ab cde");
        Check.answers("one line", () -> x.set(5000, 0, 0, 1, 1), 1);
        told("one line", x, 100, 1, 2, 1, 1500, 3000);
        at("one line", x, 1, 0, 2, 1000, 500);
        at("one line", x, 2, 3, 6, 2500, 500);
        line("one line", x, 0, 0, 2, 0, 3000, 0, 100, 2, 0);
        Check.answers("the line to the end is not stretched", () -> x.spot(0, 1), 1500);
        Check.same("its text", Check.text(x, 0), "ab cde");
        Check.answers("text answers the length", () -> x.text(0), 6);
        x.set(3000, 0, 0, 1, 1);
        line("just as wide", x, 0, 0, 2, 0, 3000, 0, 100, 2, 0);
    }

    private static void shrinks() {
        LineSetter x = of("aaa bbb");
        Check.answers("a shrunk line", () -> x.set(3400, 0, 0, 0, 10000), 1);
        line("a shrunk line", x, 0, 0, 2, -603, 3500, 0, 31 * 31, 2, 21);
        Check.answers("its second word is moved back", () -> x.spot(0, 1), 1900);
        x.set(3334, 0, 0, 0, 10000);
        line("shrunk by all", x, 0, 0, 2, -1000, 3500, 0, 110 * 110, 2, 100);
        Check.answers("moved back by all", () -> x.spot(0, 1), 1834);
        LineSetter z = new LineSetter();
        Check.font(z, "width \" \" 2997;");
        Check.run(z, "a b", 1000);
        z.set(3996, 0, 0, 0, 10000);
        line("a little above a whole ratio", z, 0, 0, 2, -2, 3997, 0, 100, 2, 0);
        LineSetter y = of("a b c ddd");
        y.set(4300, 0, 0, 0, 10000);
        line("three glues", y, 0, 0, 4, -402, 4500, 0, 16 * 16, 4, 6);
        Check.answers("behind the first glue", () -> y.spot(0, 1), 1000 - 200 * 166 / 498);
        Check.answers("behind the second glue", () -> y.spot(0, 2), 2000 - 200 * 332 / 498);
        Check.answers("behind the third glue", () -> y.spot(0, 3), 3000 - 200);
    }

    private static void tooLong() {
        LineSetter x = of("aaaa");
        Check.answers("a word that is too long", () -> x.set(1000, 0, 0, 0, 1), 1);
        told("a word that is too long", x, 1100201100L, 10001, 1, 1, 2000, 2000);
        line("a word that is too long", x, 0, 0, 1, -1000, 2000, 0, 1100201100L, 1, 10000);
        LineSetter y = of("aaa bbb");
        Check.answers("one too much to shrink", () -> y.set(3333, 0, 0, 0, 200), 2);
        told("one too much to shrink", y, 100220200, 10000, 2, 2, 1500, 3500);
        line("one too much to shrink", y, 0, 0, 1, 100000, 1500, 0, 100210100, 1, 10000);
        line("one too much to shrink", y, 1, 1, 2, 0, 1500, 0, 10100, 1, 0);
        x.set(1000, 0, 2, 0, 1);
        line("too long and right", x, 0, 0, 1, -1000, 2000, 0, 1100201100L, 1, 10000);
        x.set(1000, 0, 3, 0, 1);
        line("too long and in the middle", x, 0, 0, 1, -1000, 2000, 0, 1100201100L, 1, 10000);
    }

    private static void tooLongWithGlue() {
        LineSetter x = of("aaaa bbbb");
        Check.answers("two words in one that is too long", () -> x.set(1000, 0, 0, 0, 1), 1);
        told("two words in one", x, 1100200100L + 4500 - 166 - 1000, 10001);
        Check.answers("shrunk by all that it has", () -> x.spot(0, 1), 2500 - 166);
        x.set(1000, 0, 1, 0, 1);
        told("left has no shrink", x, 1100200100L + 4500 - 1000, 10001);
        Check.answers("left moves no word", () -> x.spot(0, 1), 2500);
    }

    private static void longRatio() {
        LineSetter x = new LineSetter();
        Check.font(x, "width \" \" 4;");
        Check.run(x, "a b ccc", 1000);
        x.set(1500, 0, 0, 0, 10000);
        line("a wide stretch", x, 0, 0, 2, 100000, 1004, 0, 100210100, 2, 10000);
        Check.answers("all the room is taken", () -> x.spot(0, 1), 504 + 496);
        Check.font(x, "width \" \" 1;");
        x.set(1500, 0, 0, 0, 10000);
        line("no stretch at all", x, 0, 0, 2, 100000, 1001, 0, 100210100, 2, 10000);
        Check.answers("no word is moved", () -> x.spot(0, 1), 501);
        LineSetter y = new LineSetter();
        Check.font(y, "width \" \" 2;");
        Check.run(y, "a b cc", 1000);
        y.set(1052, 0, 0, 0, 10000);
        line("a stretch of 1", y, 0, 0, 2, 50000, 1002, 0, 100210100, 2, 10000);
    }

    private static void hyphens() {
        LineSetter x = of("aabb");
        Check.hyphens(x, "ends 11 a1b");
        Check.answers("a hyphen", () -> x.set(1500, 0, 0, 1, 1), 2);
        told("a hyphen", x, 7700, 1, 2, 2, 1500, 2000);
        at("a hyphen", x, 1, 1, 2, 1000, 0);
        at("a hyphen", x, 2, 3, 4, 2000, 0);
        line("a hyphen", x, 0, 0, 1, 0, 1500, 0, 2600, 1, 0);
        line("a hyphen", x, 1, 1, 2, 0, 1000, 0, 5100, 1, 0);
        Check.same("the text has a - more", Check.text(x, 0), "aa-");
        Check.same("the rest of the word", Check.text(x, 1), "bb");
        Check.refuses("a part is one word", () -> x.spot(1, 1), Check.IOOBE);
        Check.answers("no hyphens are asked for", () -> x.set(2000, 0, 0, 0, 1), 1);
        told("no hyphens", x, 100, 1, 1, 1, 2000, 2000);
        x.set(2000, 0, 0, 1, 1);
        Check.same("a hyphen that is not broken", Check.text(x, 0), "aabb");
        LineSetter y = new LineSetter();
        Check.hyphens(y, "ends 11 a1b");
        Check.font(y, "width \"-\" 300; kern \"a\" \"-\" 400; kern \"a\" \"b\" 100; join \"a\" \"b\" 1;");
        Check.run(y, "a", 2000);
        Check.run(y, "b", 3000);
        y.set(1600, 0, 0, 1, 1);
        line("the - has the size of the byte ahead and no kern", y, 0, 0, 1, 0, 1600, 0, 2600, 1, 0);
        told("the widest part is the one without", y, 7700, 1, 2, 2, 1600, 2500);
    }

    private static void dashes() {
        LineSetter x = of("aa-bb-cc");
        Check.answers("dashes", () -> x.set(1500, 0, 0, 0, 1), 3);
        told("dashes", x, 1000 + 4000 + 5100, 1, 3, 3, 1500, 4000);
        at("dashes", x, 1, 2, 3, 1500, 0);
        at("dashes", x, 2, 2, 6, 3000, 0);
        line("dashes", x, 1, 1, 2, 0, 1500, 0, 4000, 1, 0);
        Check.same("a dash has no - more", Check.text(x, 1), "bb-");
        LineSetter y = of("-a- --b - c-");
        y.set(1000000, 0, 0, 0, 1);
        Check.answers("dashes in odd places", () -> y.told(2), 7);
        at("the first byte", y, 1, 2, 1, 500, 0);
        at("the last byte of a word is none", y, 2, 0, 3, 1500, 500);
        at("two in a row", y, 3, 2, 5, 2000, 500);
        at("two in a row", y, 4, 2, 6, 2500, 500);
        at("behind them", y, 5, 0, 7, 3000, 1000);
        at("a word of a dash", y, 6, 0, 9, 3500, 1500);
        at("the end", y, 7, 3, 12, 4500, 1500);
        LineSetter z = of("aa-bbcc");
        Check.hyphens(z, "ends 11 b1c");
        z.set(1500, 0, 0, 1, 1);
        told("a dash, then a hyphen", z, 1000 + (100 + 2500 + 3000) + 5100);
    }

    private static void hyphensInRows() {
        LineSetter x = of("aab(aab)aab aAb");
        Check.hyphens(x, "ends 11 a1b .a1 =a-ab");
        x.set(1000000, 0, 0, 1, 1);
        Check.answers("hyphens in each row of letters", () -> x.told(2), 6);
        at("the first row", x, 1, 1, 1);
        at("the second row", x, 2, 1, 5);
        at("the third row", x, 3, 1, 9);
        at("the glue", x, 4, 0, 11);
        at("capitals", x, 5, 1, 13);
        LineSetter y = of("ab");
        Check.run(y, "cd e", 2000);
        Check.hyphens(y, "ends 11 b1c d1 1e");
        y.set(1000000, 0, 0, 1, 1);
        Check.answers("a row goes over two sizes, not over a blank", () -> y.told(2), 3);
        at("two sizes", y, 1, 1, 2, 1000, 0);
    }

    private static void longRows() {
        LineSetter x = of("a".repeat(4000));
        Check.hyphens(x, "ends 99 aaaa1. aaaaaaaaaaaa");
        x.set(1000000, 0, 0, 1, 1);
        Check.answers("a row of 4000 letters", () -> x.told(2), 1);
        Check.hyphens(x, "ends 92 aaaa1aa.");
        x.set(1000000, 0, 0, 1, 1);
        at("a row of 4000 letters", x, 1, 1, 3998);
        LineSetter y = of("1".repeat(3500) + " aabb");
        Check.hyphens(y, "ends 11 a1b");
        y.set(1000000, 0, 0, 1, 1);
        at("a row far behind", y, 2, 1, 3503);
        LineSetter z = of("a".repeat(3999) + "-");
        z.set(1000000, 0, 0, 0, 1);
        Check.answers("a dash at the end of 4000 bytes", () -> z.told(2), 1);
    }

    private static void hyphenTooLong() {
        LineSetter x = new LineSetter();
        Check.font(x, "width \"q\" 0;");
        Check.hyphens(x, "ends 11 b1q");
        Check.run(x, "a bq", 1000);
        x.set(1334, 0, 0, 1, 100);
        told("too long by the - alone", x, 110 * 110, 100, 3, 1);
    }

    private static void partWidths() {
        LineSetter x = new LineSetter();
        Check.hyphens(x, "ends 11 f1f");
        Check.font(x, "join \"f\" \"f\" 600; kern \"f\" \"f\" 50; kern \"b\" \"f\" - 100; kern \"-\" \"f\" 70;");
        Check.run(x, "bff -f", 1000);
        x.set(1000000, 0, 0, 0, 1);
        at("a join in one part", x, 1, 0, 3, 500 - 100 + 600, 500);
        at("no kern over a dash", x, 2, 2, 5, 1000 + 500, 500);
        x.set(1000000, 0, 0, 1, 1);
        at("no join and no kern over a hyphen", x, 1, 1, 2, 500 - 100 + 500, 0);
        at("what is behind", x, 2, 0, 3, 900 + 500, 500);
        LineSetter y = new LineSetter();
        Check.font(y, "join \"f\" \"f\" 600; kern \"b\" \"f\" - 100; width \"q\" 0; kern \"q\" \"q\" - 500;");
        Check.run(y, "bf", 1000);
        Check.run(y, "f", 2000);
        Check.run(y, "bf qq", 1000);
        y.set(1000000, 0, 0, 0, 1);
        at("no join over two sizes", y, 1, 0, 5, 500 - 100 + 500 + 1000 + 500 - 100 + 500, 500);
        at("a part is at least 0 wide", y, 2, 3, 8, 2800, 500);
    }

    private static void gluesAndSizes() {
        LineSetter x = new LineSetter();
        Check.font(x, "width \" \" 301;");
        Check.run(x, "a b ", 1000);
        Check.run(x, "c ", 2000);
        Check.run(x, "dddd", 1000);
        x.set(3000, 0, 0, 0, 10000);
        at("the first glue", x, 1, 0, 1, 500, 301);
        at("the second glue", x, 2, 0, 3, 1000, 602);
        at("the third glue", x, 3, 0, 5, 2000, 602 + 602);
        line("glues of two sizes", x, 0, 0, 3, (3000 - 2602) * 1000 / 300, 2602, 0, (10 + 233) * (10 + 233) + 10000, 3, 233);
        Check.answers("behind the first", () -> x.spot(0, 1), 801 + 398 * 150 / 300);
        Check.answers("behind the second", () -> x.spot(0, 2), 1602 + 398);
        LineSetter y = new LineSetter();
        Check.run(y, "a ", 1000);
        Check.run(y, "b ", 3000);
        Check.run(y, "c ddddddd", 1000);
        y.set(4600, 0, 0, 0, 10000);
        line("stretches of two sizes", y, 0, 0, 3, 100, 4500, 0, 100, 3, 0);
        Check.answers("behind the lesser glue", () -> y.spot(0, 1), 1000 + 25);
        Check.answers("behind the greater glue", () -> y.spot(0, 2), 4000 + 100);
    }

    /** Six bytes and a glue: N is 3500, A 250, Z 166. The second line is the END's, of class 1. */
    private static void firstOfTwo(int width, long ratio, long cost, long costBehind) {
        LineSetter x = of("aaa bbb cccccc");
        x.set(width, 0, 0, 0, 10000);
        Check.answers("ratio by width " + width, () -> x.line(0, 2), ratio);
        Check.answers("cost by width " + width, () -> x.line(0, 5), cost);
        Check.answers("cost behind it by width " + width, () -> x.line(1, 5), costBehind);
    }

    /** Two lines "a p" and "a q": by the widths of p and q their ratios are 2000 - p below 0, else two thirds of it. */
    private static void classesOfTwo(int p, int q, long cost) {
        LineSetter x = new LineSetter();
        Check.font(x, "width \"a\" 5000; width \" \" 3000; width \"p\" " + p + "; width \"q\" " + q + ";");
        Check.run(x, "a p a q a", 1000);
        x.set(10000, 0, 0, 0, 10000);
        Check.answers("the classes of widths " + p + " and " + q, () -> Check.judge(x, 2, 4), cost);
    }

    private static void classes() {
        firstOfTwo(3500, 0, 100, 100);
        firstOfTwo(3625, 500, 22 * 22, 100);
        firstOfTwo(3626, 504, 22 * 22, 100);
        firstOfTwo(3750, 1000, 110 * 110, 100);
        firstOfTwo(3751, 1004, 111 * 111 + 10000, 10100);
        firstOfTwo(3417, -500, 22 * 22, 100);
        firstOfTwo(3416, -507, 23 * 23, 100);
        firstOfTwo(3334, -1000, 110 * 110, 100);
        classesOfTwo(2501, 1248, 22 * 22 + 22 * 22 + 100 + 10000);
        classesOfTwo(2500, 1248, 22 * 22 + 22 * 22 + 100);
        classesOfTwo(2501, 1250, 22 * 22 + 22 * 22 + 100);
        classesOfTwo(2501, 500, 22 * 22 + 110 * 110 + 100 + 10000);
        classesOfTwo(500, 2501, 22 * 22 + 110 * 110 + 100 + 10000);
        classesOfTwo(498, 1250, 22 * 22 + 110 * 110 + 100 + 20000);
        classesOfTwo(498, 1248, 22 * 22 + 110 * 110 + 100 + 10000);
        classesOfTwo(500, 498, 110 * 110 + 110 * 110 + 100 + 10000);
        classesOfTwo(498, 498, 110 * 110 + 110 * 110 + 100 + 20000);
        LineSetter x = of("aa bb ccc d eeeeee");
        x.set(2600, 0, 0, 0, 10000);
        line("class 1", x, 0, 0, 2, 400, 2500, 0, 16 * 16, 2, 6);
        line("class 1 again", x, 1, 2, 4, 400, 2500, 0, 16 * 16, 2, 6);
    }

    private static void tolerances() {
        LineSetter x = of("aaa bbb cccccc");
        x.set(3750, 0, 0, 0, 100);
        told("the tolerance is the badness", x, 110 * 110 + 100, 100);
        x.set(3750, 0, 0, 0, 99);
        told("the tolerance is below the badness", x, 110 * 110 + 100, 10000);
        LineSetter y = of("aaaaaaaaaa");
        y.set(1000, 0, 0, 0, 10000);
        told("no tolerance is enough", y, 1100200100L + 4000, 10001);
    }

    private static void ties() {
        LineSetter x = of(SEVENTEEN + " b " + SEVENTEEN);
        x.set(10000, 0, 1, 0, 10000);
        told("two rows of one cost", x, 200, 10000, 3, 2);
        Check.answers("the lesser break is taken", () -> x.line(0, 1), 1);
        LineSetter y = of(SEVENTEEN + " b " + SEVENTEEN + " b " + SEVENTEEN);
        y.set(10000, 0, 1, 0, 10000);
        told("more rows of one cost", y, 300, 10000, 5, 3);
        Check.answers("the least last break", () -> y.line(1, 1), 3);
        Check.answers("the least break ahead of it", () -> y.line(0, 1), 1);
        LineSetter z = new LineSetter();
        Check.font(z, "width \"a\" 0; width \" \" 0;");
        Check.run(z, "a a a a", 1000);
        z.set(1000, 0, 0, 0, 10000);
        told("one line is the cheapest", z, 100, 10000, 4, 1, 0, 0);
    }

    private static void indents() {
        LineSetter x = of("aaa bbb ccc ddd");
        x.set(4000, 500, 0, 0, 10000);
        line("an indent", x, 0, 0, 2, 0, 3500, 500, 100, 2, 0);
        line("no indent in the second line", x, 1, 2, 4, 0, 3500, 0, 100, 2, 0);
        Check.answers("words behind an indent", () -> x.spot(0, 1), 2500);
        x.set(1500, 500000, 0, 0, 10000);
        Check.answers("room is 1000 at least", () -> x.line(0, 2), -1000);
        line("the indent stays whole", x, 0, 0, 1, -1000, 1500, 500000, 1100200100L + 500, 1, 10000);
        LineSetter y = of("aa bbb");
        y.set(1500, 501, 0, 0, 10000);
        line("room of 1000", y, 0, 0, 1, 0, 1000, 501, 100, 1, 0);
    }

    private static void aligns() {
        LineSetter x = of("aaa bbb ccc ddd");
        x.set(4001, 200, 1, 0, 10000);
        line("left", x, 0, 0, 2, 301L * 1000 / 3801, 3500, 200, 100, 2, 0);
        Check.answers("left words are not moved", () -> x.spot(0, 1), 200 + 2000);
        x.set(4001, 200, 2, 0, 10000);
        line("right", x, 0, 0, 2, 79, 3500, 501, 100, 2, 0);
        line("right, to the end", x, 1, 2, 4, 0, 3500, 501, 100, 2, 0);
        Check.answers("right words", () -> x.spot(0, 1), 501 + 2000);
        x.set(4001, 200, 3, 0, 10000);
        line("middle", x, 0, 0, 2, 79, 3500, 350, 100, 2, 0);
        line("middle, rounded down", x, 1, 2, 4, 0, 3500, 250, 100, 2, 0);
        Check.answers("middle words", () -> x.spot(1, 1), 250 + 2000);
        x.set(3400, 0, 1, 0, 10000);
        Check.answers("left does not shrink", () -> x.line(0, 1), 1);
    }

    private static void wrongNumbers() {
        LineSetter x = of("aa bb");
        int[][] wrong = {{999, 0, 0, 0, 1}, {1000001, 0, 0, 0, 1}, {1000, -1, 0, 0, 1}, {1000, 500001, 0, 0, 1}, {1000, 0, -1, 0, 1},
            {1000, 0, 4, 0, 1}, {1000, 0, 0, -1, 1}, {1000, 0, 0, 2, 1}, {1000, 0, 0, 0, 0}, {1000, 0, 0, 0, 10001}};
        for (int[] n : wrong) {
            Check.refuses("set of a wrong number", () -> x.set(n[0], n[1], n[2], n[3], n[4]), Check.IAE);
        }
        Check.refuses("nothing is set by them", () -> x.told(0), Check.ISE);
        Check.refuses("told of a wrong number, nothing set", () -> x.told(6), Check.IAE);
        Check.refuses("at of a wrong number, nothing set", () -> x.at(1, 4), Check.IAE);
        Check.refuses("line of a wrong number, nothing set", () -> x.line(0, -1), Check.IAE);
        Check.refuses("set of a wrong number and no paragraph", () -> new LineSetter().set(0, 0, 0, 0, 0), Check.IAE);
        Check.answers("the least numbers", () -> x.set(1000, 0, 0, 0, 1), 2);
        Check.answers("the greatest numbers", () -> x.set(1000000, 500000, 3, 1, 10000), 1);
        Check.refuses("told -1", () -> x.told(-1), Check.IAE);
        Check.refuses("told 6", () -> x.told(6), Check.IAE);
        Check.refuses("at 0", () -> x.at(0, 0), Check.IAE);
        Check.refuses("at behind the end", () -> x.at(3, 0), Check.IAE);
        Check.refuses("at what -1", () -> x.at(1, -1), Check.IAE);
        Check.refuses("at what 4", () -> x.at(1, 4), Check.IAE);
        Check.refuses("line -1", () -> x.line(-1, 0), Check.IAE);
        Check.refuses("line 1 of 1", () -> x.line(1, 0), Check.IAE);
        Check.refuses("line what -1", () -> x.line(0, -1), Check.IAE);
        Check.refuses("line what 8", () -> x.line(0, 8), Check.IAE);
        Check.refuses("spot of line -1", () -> x.spot(-1, 0), Check.IAE);
        Check.refuses("spot of line 1 of 1", () -> x.spot(1, 9), Check.IAE);
        Check.refuses("spot of word 2 of 2", () -> x.spot(0, 2), Check.IOOBE);
        Check.refuses("spot of word -1", () -> x.spot(0, -1), Check.IOOBE);
        Check.refuses("text of line -1", () -> x.text(-1), Check.IAE);
        Check.refuses("text of line 1 of 1", () -> x.text(1), Check.IAE);
        x.text(0);
        Check.outcome(() -> x.text(1));
        Check.same("a refused text leaves out", Check.out(x), "aa bb");
    }

    private static void refusedSetKeepsTheOld() {
        LineSetter x = of("aa bb");
        x.set(2000, 0, 1, 0, 10000);
        long cost = x.told(0);
        Check.refuses("a wrong number", () -> x.set(2000, 0, 9, 0, 1), Check.IAE);
        x.clear();
        Check.refuses("no paragraph", () -> x.set(3000, 0, 0, 0, 1), Check.ISE);
        Check.run(x, "a ".repeat(601), 1000);
        Check.refuses("601 breaks", () -> x.set(3000, 0, 0, 0, 1), Check.IOOBE);
        told("what was set before", x, cost, 10000, 2, 2, 1000, 2500);
        Check.same("its text", Check.text(x, 1), "bb");
    }

    private static void setKeepsACopy() {
        LineSetter x = of("aabb aabb");
        Check.hyphens(x, "ends 11 a1b");
        x.set(1500, 0, 0, 1, 10000);
        long cost = x.told(0);
        Check.font(x, "width \"a\" 1; width \"-\" 2; width \" \" 3;");
        Check.hyphens(x, "");
        Check.run(x, "more", 5000);
        told("what was set", x, cost, 10000, 4, 4, 1500, 4500);
        Check.same("its first line", Check.text(x, 0), "aa-");
        Check.answers("its first width", () -> x.line(0, 3), 1500);
        Check.same("its last line", Check.text(x, 3), "bb");
        x.clear();
        Check.same("its last line behind clear", Check.text(x, 3), "bb");
        Check.answers("its cost by judge", () -> Check.judge(x, 1, 2, 3), cost);
        Check.run(x, "zz", 1000);
        x.set(1500, 0, 0, 1, 10000);
        told("what is set now", x, 100, 10000, 1, 1, 1000, 1000);
    }

    private static void manyBreaks() {
        LineSetter x = of("a ".repeat(600));
        Check.answers("600 breaks", () -> x.set(1000000, 0, 0, 0, 10000), 1);
        told("600 breaks", x, 100, 10000, 600, 1, 500, 600 * 500 + 599 * 500);
        Check.answers("600 words", () -> x.line(0, 6), 600);
        Check.answers("the last of them", () -> x.spot(0, 599), 599 * 1000);
        Check.answers("600 lines", () -> x.set(1000, 0, 1, 0, 1), 600);
        Check.answers("the last line", () -> x.line(599, 1), 600);
        Check.refuses("no 601st", () -> x.line(600, 1), Check.IAE);
        Check.run(x, "-b", 1000);
        Check.refuses("more breaks", () -> x.set(1000000, 0, 0, 0, 10000), Check.IOOBE);
        LineSetter y = of("a-".repeat(600) + "a");
        Check.refuses("601 breaks by dashes", () -> y.set(1000000, 0, 0, 0, 10000), Check.IOOBE);
        LineSetter z = of("a".repeat(601));
        Check.hyphens(z, "ends 11 1a");
        Check.answers("600 hyphens that are not asked for", () -> z.set(1000000, 0, 0, 0, 10000), 1);
        Check.refuses("601 breaks by hyphens", () -> z.set(1000000, 0, 0, 1, 10000), Check.IOOBE);
        Check.hyphens(z, "ends 12 1a");
        Check.answers("600 breaks by hyphens", () -> z.set(1000000, 0, 0, 1, 10000), 1);
        Check.answers("they are 600", () -> z.told(2), 600);
    }
}
