/** Promises 4, 6 and 17: font, place, width. */
public final class FontTest {
    public static void main(String[] args) {
        tells();
        measures();
        joinsAndKerns();
        replaces();
        signs();
        breaks();
        limits();
        wrongWidths();
        Check.done("FontTest");
    }

    private static void tells() {
        LineSetter x = new LineSetter();
        Check.same("an empty font", Check.font(x, ""), "0 -1");
        Check.same("a font of blanks", Check.font(x, " \n "), "0 -1");
        Check.same("one of each", Check.font(x, "width \"a\" 1; kern \"a\" \"b\" 2; join \"a\" \"b\" 3;"), "3 -1");
        Check.same("told again", Check.font(x, "width \"a\" 1;width\"a\"2;kern\"a\"\"b\"-3;kern\"b\"\"a\"0;kern\"a\"\"b\"4;"
                + "join\"a\"\"a\"5;\njoin \"a\" \"a\" 0 ;"), "4 -1");
        Check.answers("the last width counts", () -> Check.width(x, "a", 1000), 2);
        Check.answers("the last kern counts", () -> Check.width(x, "ab", 1000), 506);
        Check.answers("the last join counts", () -> Check.width(x, "aa", 1000), 0);
        Check.same("all bytes that can be told", Check.font(x, allWidths()), "94 -1");
        Check.answers("a told blank", () -> Check.width(x, " ", 1000), 32);
        Check.answers("a quote can't be told", () -> Check.width(x, "\"", 1000), 500);
        Check.answers("a told ~", () -> Check.width(x, "~", 1000), 126);
    }

    private static String allWidths() {
        StringBuilder text = new StringBuilder();
        for (char b = 32; b <= 126; b++) {
            if (b != '"') {
                text.append("width\"").append(b).append("\"").append((int) b).append(";");
            }
        }
        return text.toString();
    }

    private static void measures() {
        LineSetter x = new LineSetter();
        Check.font(x, "width \"a\" 333; width \"b\" 5000; kern \"a\" \"a\" - 7; kern \"a\" \"c\" 7; width \"d\" 0; kern \"d\" \"d\" - 500;");
        Check.answers("an empty tape", () -> Check.width(x, "", 1000), 0);
        Check.answers("rounded down", () -> Check.width(x, "a", 1999), 665);
        Check.answers("the greatest width", () -> Check.width(x, "b", 100000), 500000);
        Check.answers("each byte is rounded by itself", () -> Check.width(x, "abab", 1999), 2 * 665 + 2 * 9995);
        Check.answers("a kern below 0, its size rounded down", () -> Check.width(x, "aa", 1999), 2 * 665 - 13);
        Check.answers("a kern above 0", () -> Check.width(x, "ac", 1999), 665 + 999 + 13);
        Check.answers("no kern the other way", () -> Check.width(x, "ca", 1999), 665 + 999);
        Check.answers("in all at least 0", () -> Check.width(x, "dd", 1000), 0);
        Check.answers("in all, not at each step", () -> Check.width(x, "dda", 1000), 0);
        Check.answers("above 0 again", () -> Check.width(x, "ddb", 1000), 4500);
        Check.answers("blanks are bytes here", () -> Check.width(x, " a ", 1000), 1333);
    }

    private static void joinsAndKerns() {
        LineSetter x = new LineSetter();
        Check.font(x, "join \"f\" \"f\" 700; join \"f\" \"i\" 650; kern \"f\" \"i\" - 50; kern \"a\" \"f\" 30; kern \"f\" \"f\" 11;"
                + "kern \"i\" \"b\" 9; join \" \" \"!\" 1;");
        Check.answers("a join", () -> Check.width(x, "ff", 1000), 700);
        Check.answers("joins go from the left", () -> Check.width(x, "ffi", 1000), 700 + 500 - 50);
        Check.answers("two joins and the kern between", () -> Check.width(x, "ffff", 1000), 700 + 11 + 700);
        Check.answers("a join has no kern inside", () -> Check.width(x, "fi", 1000), 650);
        Check.answers("kerns at both ends of a join", () -> Check.width(x, "afib", 1000), 500 + 30 + 650 + 9 + 500);
        Check.answers("a joined blank", () -> Check.width(x, " !", 1000), 1);
    }

    private static void replaces() {
        LineSetter x = new LineSetter();
        Check.font(x, "width \"a\" 100; kern \"a\" \"b\" 100; join \"c\" \"d\" 100;");
        Check.same("a broken font", Check.font(x, "width \"a\" 200; kern \"a\" \"b\" 200; join \"c\" \"d\" 200; width"),
                "throws.UnsupportedOperationException 56");
        Check.answers("a broken font changes nothing", () -> Check.width(x, "abcd", 1000), 100 + 100 + 500 + 100);
        Check.same("the next font", Check.font(x, "width \"z\" 1;"), "1 -1");
        Check.answers("nothing of the font before stays", () -> Check.width(x, "abcd", 1000), 2000);
        Check.same("a font once more", Check.font(x, "width \"b\" 1;"), "1 -1");
        Check.answers("nor of the one before that", () -> Check.width(x, "abz", 1000), 1001);
    }

    private static void signs() {
        LineSetter x = new LineSetter();
        Check.same("no blanks", Check.font(x, "width\"a\"1;kern\"a\"\"b\"-2;join\"a\"\"b\"3;"), "3 -1");
        Check.same("blanks everywhere", Check.font(x, "\n width \n \"a\"  1 ; kern \"a\"\n\"b\" - \n 2\n;\n"), "2 -1");
        Check.same("a blank as a byte", Check.font(x, "width\" \"7;"), "1 -1");
        Check.same("seven digits", Check.font(x, "width \"a\" 0005000;"), "1 -1");
        Check.same("a number ahead of a name", Check.font(x, "width \"a\" 5;width \"b\" 6;"), "2 -1");
    }

    private static void broken(String text, int place) {
        LineSetter x = new LineSetter();
        Check.same("font of " + text.replace('\n', '/'), Check.font(x, text), "throws.UnsupportedOperationException " + place);
    }

    private static void breaks() {
        broken("widths \"a\" 1;", 0);
        broken("width5 \"a\" 1;", 0);
        broken("widt \"a\" 1;", 0);
        broken("Width \"a\" 1;", 0);
        broken(" ; ", 1);
        broken("5", 0);
        broken("abcdefghijklm", 0);
        broken("width", 5);
        broken("width  \n", 8);
        broken("width a", 6);
        broken("width \"a", 6);
        broken("width \"", 6);
        broken("width \"\" 1;", 6);
        broken("width \"ab\" 1;", 6);
        broken("width \"\n\" 1;", 6);
        broken("width \"\u007f\" 1;", 6);
        broken("width \"\"\" 1;", 6);
        broken("width \"a\"", 9);
        broken("width \"a\" ;", 10);
        broken("width \"a\" - 1;", 10);
        broken("width \"a\" 5001;", 10);
        broken("width \"a\" 00000001;", 10);
        broken("width \"a\" 1", 11);
        broken("width \"a\" 1 ", 12);
        broken("width \"a\" 1 2;", 12);
        broken("width \"a\" 1x;", 11);
        broken("width \"a\" 1;;", 12);
        broken("width \"a\" 1; \t", 13);
        broken("width \"a\" 1; \0", 13);
        broken("kern \"a\" 1;", 9);
        broken("kern \"a\" \"b\" 501;", 13);
        broken("kern \"a\" \"b\" - 501;", 15);
        broken("kern \"a\" \"b\" - - 1;", 15);
        broken("kern \"a\" \"b\" -;", 14);
        broken("kern \"a\" \"b\" -", 14);
        broken("join \"a\" \"b\" - 1;", 13);
        broken("join \"a\" \"b\" 5001;", 13);
        broken("join \"a\" \"bc\" 1;", 9);
        LineSetter x = new LineSetter();
        Check.same("kern of 500", Check.font(x, "kern \"a\" \"b\" 500; kern \"b\" \"a\" - 500; join \"a\" \"b\" 5000;"), "3 -1");
        Check.font(x, "?");
        Check.answers("the place stays for other calls", () -> Check.width(x, "?", 1000) - 500 + x.place(), 0);
        Check.font(x, "");
        Check.answers("the place of the latest font", x::place, -1);
    }

    /** Pairs of the letters a .. t: 400 different ones. */
    private static String pairs(String name, int n) {
        StringBuilder text = new StringBuilder();
        for (int i = 0; i < n; i++) {
            text.append(name).append("\"").append((char) ('a' + i / 20)).append("\"\"").append((char) ('a' + i % 20)).append("\"1;");
        }
        return text.toString();
    }

    private static void limits() {
        LineSetter x = new LineSetter();
        String kerns = pairs("kern", 200);
        Check.same("200 kerns", Check.font(x, kerns), "200 -1");
        Check.same("one of them again", Check.font(x, kerns + "kern\"a\"\"a\"2;"), "200 -1");
        LineSetter y = new LineSetter();
        Check.same("201 kerns", Check.font(y, kerns + "kern \"z\" \"a\" 501"),
                "throws.UnsupportedOperationException " + (kerns.length() + 9));
        String joins = pairs("join", 60);
        Check.same("60 joins", Check.font(y, joins), "60 -1");
        Check.same("60 joins and one again", Check.font(y, joins + "join\"c\"\"t\"77;"), "60 -1");
        Check.answers("the one again counts", () -> Check.width(y, "ct", 1000), 77);
        Check.same("61 joins", Check.font(y, joins + "join\"z\"\"z\""),
                "throws.UnsupportedOperationException " + (joins.length() + 7));
    }

    private static void wrongWidths() {
        LineSetter x = new LineSetter();
        Check.refuses("size 999", () -> Check.width(x, "a", 999), Check.IAE);
        Check.refuses("size 100001", () -> Check.width(x, "a", 100001), Check.IAE);
        Check.answers("size 1000", () -> Check.width(x, "a", 1000), 500);
        Check.answers("size 100000", () -> Check.width(x, "a", 100000), 50000);
        Check.refuses("byte 31", () -> Check.width(x, "a\u001f", 1000), Check.IAE);
        Check.refuses("byte 10", () -> Check.width(x, "a\n", 1000), Check.IAE);
        Check.refuses("byte 127", () -> Check.width(x, "a\u007f", 1000), Check.IAE);
        Check.refuses("byte 255", () -> Check.width(x, "\u00ff", 1000), Check.IAE);
        Check.answers("bytes 32 .. 126", () -> Check.width(x, " ~", 1000), 1000);
    }
}
