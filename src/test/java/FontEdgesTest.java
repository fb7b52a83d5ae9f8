import java.util.List;

/** The SIGNS, FONT and promises 4 and 17, sentence by sentence at their bounds. */
public final class FontEdgesTest {
    private static final String[] WIDTH = {"width", "\"a\"", "5", ";"};
    private static final String[] KERN = {"kern", "\"a\"", "\"b\"", "-", "5", ";"};
    private static final String[] JOIN = {"join", "\"a\"", "\"b\"", "5", ";"};
    /** A SIGN of each kind, right ones and wrong ones. */
    private static final String[] SIGNS = {"width", "kern", "join", "a", "abcdefghijkl", "abcdefghijklm", "width1", "\"c\"", "\"\"", "\"cd\"",
        "5", "501", "5001", "12345678", "-", ";", "?", "A", "\"", "\"c", "\t", "\0", "\u007f", "\u00ff"};

    public static void main(String[] args) {
        names();
        numbers();
        strings();
        otherBytes();
        asLongAsCanBe();
        blanks();
        wrongSigns();
        missingSigns();
        firstOfSeveral();
        ranges();
        kernLimit();
        joinLimit();
        limitsTogether();
        toldAgain();
        without();
        nothingStays();
        brokenChangesNothing();
        widthSizes();
        widthBytes();
        rounding();
        atLeastZero();
        joins();
        Check.done("FontEdgesTest");
    }

    private static void reads(String text, int due) {
        LineSetter x = new LineSetter();
        Check.same("font " + text, Check.font(x, text), due + " -1");
    }

    private static void broken(String text, int place) {
        LineSetter x = new LineSetter();
        Check.same("font " + text, Check.font(x, text), "throws." + Check.UOE + " " + place);
    }

    private static void names() {
        Check.sentence("NAME: a small letter, then small letters and digits");
        broken("Width \"a\" 5;", 0);
        broken("wIdth \"a\" 5;", 0);
        broken("5width \"a\" 5;", 0);
        broken("width0 \"a\" 5;", 0);
        broken("width9 \"a\" 5;", 0);
        broken("widtha \"a\" 5;", 0);
        broken("widthz \"a\" 5;", 0);
        broken("width/ \"a\" 5;", 5);
        broken("width: \"a\" 5;", 5);
        broken("width` \"a\" 5;", 5);
        broken("width{ \"a\" 5;", 5);
        broken("widthA \"a\" 5;", 5);
        Check.sentence("NAMES longer than 12");
        broken("abcdefghijk \"a\" 5;", 0);
        broken("abcdefghijkl \"a\" 5;", 0);
        broken("abcdefghijklm \"a\" 5;", 0);
        broken("width \"a\" 5; " + "w".repeat(5000), 13);
        Check.sentence("unknown where it must be known");
        for (String name : new String[] {"w", "widt", "widthwidth", "ker", "kerns", "joi", "joins", "ends"}) {
            broken("width \"a\" 5;" + name + " \"a\" \"b\" 5;", 12);
        }
    }

    private static void numbers() {
        Check.sentence("NUMBER: 1 to 7 digits");
        reads("width\"a\"7;", 1);
        reads("width\"a\"0000007;", 1);
        Check.sentence("NUMBERS longer than 7");
        broken("width\"a\"00000007;", 8);
        broken("width\"a\" " + "0".repeat(4000) + ";", 9);
        broken("width\"a\"12345678901;", 8);
        broken("width\"a\"4294967296;", 8);
        broken("width\"a\"18446744073709551616;", 8);
        broken("kern\"a\"\"b\"-00000001;", 11);
        broken("join\"a\"\"b\"00000001;", 10);
    }

    private static void strings() {
        Check.sentence("STRING: \", then bytes 32 .. 126 but \", then \"");
        for (int b : new int[] {32, 33, 35, 59, 126}) {
            reads("width\"" + (char) b + "\"5;", 1);
        }
        for (int b : new int[] {0, 9, 10, 13, 31, 127, 128, 160, 255}) {
            broken("width \"" + (char) b + "\" 5;", 6);
        }
        broken("width \"\"\" 5;", 6);
        Check.sentence("BYTE: a STRING of one byte");
        broken("width \"\" 5;", 6);
        broken("width \"ab\" 5;", 6);
        broken("width \" a\" 5;", 6);
        broken("kern \"a\" \"\" 5;", 9);
        broken("kern \"a\" \"bc\" 5;", 9);
        broken("join \"ab\" 5;", 5);
        Check.sentence("a STRING without its end (or with another byte ahead of it)");
        broken("width \"", 6);
        broken("width \"a", 6);
        broken("width \"a 5;", 6);
        broken("width \"a\n\" 5;", 6);
        broken("kern \"a\" \"", 9);
        broken("kern \"a\" \"b", 9);
        broken("kern \"a\" \"b\u0080\" 5;", 9);
        broken("width \"a\" 5;\"", 12);
    }

    private static void otherBytes() {
        Check.sentence("any other byte by itself");
        reads("kern\"a\"\"b\"-5;", 1);
        broken("kern\"a\"\"b\"--5;", 11);
        broken("width\"a\"5;;", 10);
        broken("width\"a\"-5;", 8);
        broken("join\"a\"\"b\"-5;", 10);
        broken("kern\"a\"\"b\"+5;", 10);
        broken("width,\"a\"5;", 5);
    }

    private static void asLongAsCanBe() {
        Check.sentence("each as long as can be");
        broken("widthkern \"a\" \"b\" 5;", 0);
        broken("width\"a\"5kern\"a\"\"b\"5;", 9);
        broken("width\"a\"5 0;", 10);
        broken("wid th\"a\"5;", 0);
        reads("width\"a\"5;kern\"a\"\"b\"5;join\"a\"\"b\"5;", 3);
    }

    private static String joined(String[] signs, String between) {
        return String.join(between, signs);
    }

    private static void blanks() {
        Check.sentence("with blanks (10, 32) between where one likes");
        reads("", 0);
        reads(" ", 0);
        reads("\n\n \n", 0);
        for (String[] signs : List.of(WIDTH, KERN, JOIN)) {
            for (String between : new String[] {"", " ", "\n", "\n \n", "     "}) {
                reads(joined(signs, between), 1);
                reads(between + joined(signs, between) + between + joined(signs, between) + between, 1);
            }
            for (String other : new String[] {"\t", "\r", "\0", "\u000b", "\u001f", "!", "\u00a0"}) {
                broken(joined(signs, other), signs[0].length());
                broken(joined(signs, " ") + other, joined(signs, " ").length());
                broken(other + joined(signs, " "), 0);
            }
        }
    }

    private static boolean mayStand(String[] signs, int i, String sign) {
        String due = signs[i];
        if (due.startsWith("\"")) {
            return sign.equals("\"c\"");
        }
        if (i == 0) {
            return sign.equals("width") || sign.equals("kern") || sign.equals("join");
        }
        if (due.equals("5")) {
            return sign.equals("5") || sign.equals("501") && signs != KERN;
        }
        if (due.equals("-")) {
            return sign.equals("-") || sign.equals("5");
        }
        return sign.equals(due);
    }

    private static void wrongSigns() {
        Check.sentence("BROKEN at the PLACE (from 0) of the first byte of the first SIGN that can't stand there, or is out of range");
        for (String[] signs : List.of(WIDTH, KERN, JOIN)) {
            for (int i = 0; i < signs.length; i++) {
                String ahead = "";
                for (int k = 0; k < i; k++) {
                    ahead += signs[k] + (k % 2 == 0 ? " " : "\n");
                }
                for (String sign : SIGNS) {
                    if (!mayStand(signs, i, sign)) {
                        broken(ahead + sign + " ; ? \"", ahead.length());
                        broken("width \"z\" 0; " + ahead + sign, 13 + ahead.length());
                    }
                }
            }
        }
    }

    private static void missingSigns() {
        Check.sentence("its length at the end, if something is missing");
        for (String[] signs : List.of(WIDTH, KERN, JOIN)) {
            String ahead = "";
            for (int i = 0; i < signs.length - 1; i++) {
                ahead += signs[i];
                for (String blanks : new String[] {"", " ", "\n", " \n "}) {
                    broken(ahead + blanks, ahead.length() + blanks.length());
                    broken("width\"z\"0;" + ahead + blanks, 10 + ahead.length() + blanks.length());
                }
            }
        }
        broken("kern\"a\"\"b\"5", 11);
        broken("kern\"a\"\"b\"-", 11);
    }

    private static void firstOfSeveral() {
        Check.sentence("the first SIGN that can't stand there");
        broken("width 5 abcdefghijklm \"", 6);
        broken("width \"a\" 5001 ? \"", 10);
        broken("kern \"a\" 5 \"", 9);
        broken("? \u00ff", 0);
    }

    private static void ranges() {
        Check.sentence("NUMBER: 0 .. 5000 (kern: at most 500)");
        for (int n : new int[] {0, 1, 4999, 5000}) {
            reads("width\"a\"" + n + ";", 1);
            reads("join\"a\"\"b\"" + n + ";", 1);
            LineSetter x = new LineSetter();
            Check.font(x, "width\"a\"" + n + ";join\"b\"\"c\"" + n + ";");
            Check.answers("a width of " + n, () -> Check.width(x, "a", 1000), n);
            Check.answers("a join of " + n, () -> Check.width(x, "bc", 1000), n);
        }
        for (int n : new int[] {5001, 5002, 9999999}) {
            broken("width\"a\"" + n + ";", 8);
            broken("join\"a\"\"b\"" + n + ";", 10);
        }
        for (int n : new int[] {0, 1, 499, 500}) {
            LineSetter x = new LineSetter();
            Check.same("kerns of " + n, Check.font(x, "kern\"a\"\"b\"" + n + ";kern\"b\"\"a\"-" + n + ";"), "2 -1");
            Check.answers("a kern of " + n, () -> Check.width(x, "ab", 1000), 1000 + n);
            Check.answers("a kern of -" + n, () -> Check.width(x, "ba", 1000), 1000 - n);
        }
        for (int n : new int[] {501, 502, 5000, 9999999}) {
            broken("kern\"a\"\"b\"" + n + ";", 10);
            broken("kern\"a\"\"b\"-" + n + ";", 11);
            broken("kern\"a\"\"b\" - " + n + ";", 13);
        }
    }

    /** Pairs of different BYTES, each 12 bytes long: the i-th is of the bytes i / 20 and i % 20 of a .. t. */
    private static String pairs(String name, int n) {
        StringBuilder text = new StringBuilder();
        for (int i = 0; i < n; i++) {
            text.append(name).append("\"").append((char) ('a' + i / 20)).append("\"\"").append((char) ('a' + i % 20)).append("\"3;");
        }
        return text.toString();
    }

    private static void kernLimit() {
        Check.sentence("At most 200 kerns of different BYTES (one too much: at its second BYTE)");
        reads(pairs("kern", 199), 199);
        reads(pairs("kern", 200), 200);
        broken(pairs("kern", 201), 2400 + 7);
        broken(pairs("kern", 200) + "kern  \"a\" \n\"z\" 999", 2400 + 11);
        broken(pairs("kern", 200) + "kern \"k\" \"a\"", 2400 + 9);
        broken(pairs("kern", 200) + "kern \"z\" z", 2400 + 9);
        broken(pairs("kern", 200) + "kern z", 2400 + 5);
        broken(pairs("kern", 200) + "kern\"z\"", 2400 + 7);
        reads(pairs("kern", 200) + "kern\"j\"\"t\"4;kern\"a\"\"a\"5;", 200);
        reads(pairs("kern", 200) + pairs("kern", 200), 200);
        LineSetter x = new LineSetter();
        Check.font(x, pairs("kern", 200) + "kern\"j\"\"t\"-4;");
        Check.answers("the first of 200", () -> Check.width(x, "aa", 1000), 1003);
        Check.answers("the last of 200, told again", () -> Check.width(x, "jt", 1000), 996);
        Check.answers("one that was not told", () -> Check.width(x, "ka", 1000), 1000);
    }

    private static void joinLimit() {
        Check.sentence("At most 60 joins of different BYTES (one too much: at its second BYTE)");
        reads(pairs("join", 59), 59);
        reads(pairs("join", 60), 60);
        broken(pairs("join", 61), 720 + 7);
        broken(pairs("join", 60) + "join  \"a\" \n\"z\" 9999", 720 + 11);
        broken(pairs("join", 60) + "join\"z\"", 720 + 7);
        reads(pairs("join", 60) + "join\"c\"\"t\"4;join\"a\"\"a\"5;", 60);
        LineSetter x = new LineSetter();
        Check.font(x, pairs("join", 60) + "join\"c\"\"t\"4;");
        Check.answers("the first of 60", () -> Check.width(x, "aa", 1000), 3);
        Check.answers("the last of 60, told again", () -> Check.width(x, "ct", 1000), 4);
        Check.answers("one that was not told", () -> Check.width(x, "da", 1000), 1000);
    }

    private static void limitsTogether() {
        Check.sentence("Answers how many widths, kerns and joins of different BYTES it told");
        StringBuilder widths = new StringBuilder();
        for (char b = 32; b <= 126; b++) {
            widths.append(b == '"' ? "" : "width\"" + b + "\"5;");
        }
        reads(widths.toString(), 94);
        reads(widths + pairs("kern", 200) + pairs("join", 60), 354);
        reads(widths.toString() + widths, 94);
        reads("kern\"a\"\"b\"1;kern\"b\"\"a\"1;join\"a\"\"b\"1;join\"b\"\"a\"1;", 4);
    }

    private static void toldAgain() {
        Check.sentence("Told again for the same BYTES: the last counts");
        LineSetter x = new LineSetter();
        Check.same("each three times", Check.font(x, "width\"a\"1;width\"a\"2;width\"a\"3;kern\"a\"\"b\"1;kern\"a\"\"b\"-2;kern\"a\"\"b\"0;"
                + "join\"c\"\"d\"1;join\"c\"\"d\"2;join\"c\"\"d\"7;"), "3 -1");
        Check.answers("the width", () -> Check.width(x, "a", 1000), 3);
        Check.answers("the kern", () -> Check.width(x, "ab", 1000), 503);
        Check.answers("the join", () -> Check.width(x, "cd", 1000), 7);
    }

    private static void without() {
        Check.sentence("Without: 500, 0, none");
        LineSetter x = new LineSetter();
        for (int b = 32; b <= 126; b++) {
            String text = Character.toString((char) b);
            Check.answers("the width of byte " + b, () -> Check.width(x, text, 2000), 1000);
        }
        LineSetter y = new LineSetter();
        Check.font(y, "kern\"a\"\"b\"100;join\"a\"\"c\"100;");
        Check.answers("the other way round", () -> Check.width(y, "ba", 1000), 1000);
        Check.answers("the join's other way round", () -> Check.width(y, "ca", 1000), 1000);
        Check.answers("with another second", () -> Check.width(y, "ad", 1000), 1000);
        Check.answers("with another first", () -> Check.width(y, "db", 1000), 1000);
    }

    private static void nothingStays() {
        Check.sentence("THE TAPE is the FONT (nothing of one before stays)");
        for (String next : new String[] {"", "width\"z\"1;", "kern\"z\"\"z\"1;", "join\"z\"\"z\"1;"}) {
            LineSetter x = new LineSetter();
            Check.font(x, "width\"a\"100;kern\"a\"\"b\"100;join\"c\"\"d\"100;");
            Check.font(x, "width\"e\"100;kern\"e\"\"f\"100;join\"g\"\"h\"100;");
            Check.font(x, next);
            Check.answers("of the first and the second", () -> Check.width(x, "abcdefgh", 1000), 4000);
        }
        LineSetter x = new LineSetter();
        Check.font(x, pairs("kern", 200));
        Check.same("200 other kerns", Check.font(x, pairs("kern", 200).replaceAll("(\".\")(\".\")", "$2$1")), "200 -1");
        Check.same("one other kern", Check.font(x, "kern\"y\"\"z\"1;"), "1 -1");
        LineSetter y = new LineSetter();
        Check.font(y, pairs("join", 60));
        Check.font(y, pairs("join", 60));
        Check.same("one other join", Check.font(y, "join\"y\"\"z\"1;"), "1 -1");
    }

    private static void brokenChangesNothing() {
        Check.sentence("BROKEN: UnsupportedOperationException");
        String[] texts = {"?", "width\"a\"1;kern\"a\"\"b\"2;join\"f\"\"i\"3;width", "width\"a\"5001;", pairs("kern", 201), pairs("join", 61)};
        int[] places = {0, 39, 8, 2407, 727};
        for (int i = 0; i < texts.length; i++) {
            Twins.refused("font " + texts[i], Twins::busy, texts[i], LineSetter::font, Check.UOE, places[i]);
        }
    }

    private static void widthSizes() {
        Check.sentence("size 1000 .. 100000: the width of THE TAPE");
        int[][] sizes = {{1000, 500}, {1001, 500}, {1002, 501}, {99999, 49999}, {100000, 50000}};
        for (int[] n : sizes) {
            LineSetter x = new LineSetter();
            Check.answers("size " + n[0], () -> Check.width(x, "a", n[0]), n[1]);
        }
        for (int size : new int[] {999, 100001, 0, -1000, Integer.MIN_VALUE, Integer.MAX_VALUE}) {
            Twins.refused("width of size " + size, Twins::busy, "ab", x -> x.width(size), Check.IAE, Twins.PLACE);
            Twins.refused("width of size " + size, Twins::busy, "", x -> x.width(size), Check.IAE, Twins.PLACE);
        }
    }

    private static void widthBytes() {
        Check.sentence("bytes 32 .. 126, else IllegalArgumentException");
        LineSetter x = new LineSetter();
        for (int b : new int[] {32, 33, 34, 125, 126}) {
            Check.answers("byte " + b, () -> Check.width(x, "a" + (char) b, 1000), 1000);
        }
        for (int b : new int[] {0, 9, 10, 31, 127, 128, 160, 255}) {
            for (String text : new String[] {"" + (char) b, "ab" + (char) b, (char) b + "ab"}) {
                Twins.refused("width with byte " + b, Twins::busy, text, y -> y.width(1000), Check.IAE, Twins.PLACE);
            }
        }
    }

    private static void rounding() {
        Check.sentence("widths (size * n / 1000, rounded down) and kerns (as widths, - if it is below 0)");
        LineSetter x = new LineSetter();
        Check.font(x, "width\"a\"333;width\"b\"1;kern\"c\"\"c\"1;kern\"d\"\"d\"-1;join\"e\"\"f\"333;width\"g\"5000;join\"h\"\"h\"5000;");
        Check.answers("665.667", () -> Check.width(x, "a", 1999), 665);
        Check.answers("666", () -> Check.width(x, "a", 2000), 666);
        Check.answers("666.333", () -> Check.width(x, "a", 2001), 666);
        Check.answers("each for itself", () -> Check.width(x, "aaa", 1999), 1995);
        Check.answers("1.999", () -> Check.width(x, "b", 1999), 1);
        Check.answers("a kern of 1.999", () -> Check.width(x, "cc", 1999), 1999 - 1 + 1);
        Check.answers("a kern of -1.999", () -> Check.width(x, "dd", 1999), 1998 - 1);
        Check.answers("a kern of -2", () -> Check.width(x, "dd", 2000), 2000 - 2);
        Check.answers("a join of 665.667", () -> Check.width(x, "ef", 1999), 665);
        Check.answers("the greatest width", () -> Check.width(x, "g", 100000), 500000);
        Check.answers("the greatest join", () -> Check.width(x, "hh", 100000), 500000);
        LineSetter y = new LineSetter();
        Check.font(y, "width\"g\"5000;");
        Check.answers("more than an int holds", () -> Check.width(y, "g".repeat(8000), 100000), 4000000000L);
    }

    private static void atLeastZero() {
        Check.sentence("in all at least 0");
        LineSetter x = new LineSetter();
        Check.font(x, "width\"q\"0;width\"r\"500;width\"s\"501;width\"t\"499;kern\"q\"\"q\"-500;kern\"q\"\"r\"-500;kern\"q\"\"s\"-500;kern\"q\"\"t\"-500;");
        Check.answers("-1", () -> Check.width(x, "qt", 1000), 0);
        Check.answers("0", () -> Check.width(x, "qr", 1000), 0);
        Check.answers("1", () -> Check.width(x, "qs", 1000), 1);
        Check.answers("-500", () -> Check.width(x, "qq", 1000), 0);
        Check.answers("-1000 and 1502: in all, not at each step", () -> Check.width(x, "qqssr", 1000), 502);
    }

    private static void joins() {
        Check.sentence("from the left, two neighbours of one size that have a join are one SIGN");
        LineSetter x = new LineSetter();
        Check.font(x, "join\"f\"\"f\"700;join\"f\"\"i\"650;kern\"f\"\"f\"10;kern\"f\"\"i\"20;kern\"i\"\"x\"40;kern\"x\"\"f\"80;join\"z\"\"z\"0;");
        Check.answers("one byte", () -> Check.width(x, "f", 1000), 500);
        Check.answers("one join, no kern inside", () -> Check.width(x, "ff", 1000), 700);
        Check.answers("the left one of two", () -> Check.width(x, "fff", 1000), 700 + 10 + 500);
        Check.answers("two joins", () -> Check.width(x, "ffff", 1000), 700 + 10 + 700);
        Check.answers("a join behind a join", () -> Check.width(x, "fffi", 1000), 700 + 10 + 650);
        Check.answers("the kern of a join's last byte", () -> Check.width(x, "ffi", 1000), 700 + 20 + 500);
        Check.answers("kerns on both sides", () -> Check.width(x, "xfix", 1000), 500 + 80 + 650 + 40 + 500);
        Check.answers("a join of 0 is one", () -> Check.width(x, "zz", 1000), 0);
    }
}
