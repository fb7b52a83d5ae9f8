/** Promises 2, 3, 18 and 19: feed, end, word, count. */
public final class TapeTest {
    public static void main(String[] args) {
        feeds();
        ends();
        fills();
        words();
        counts();
        readersEmptyTheTape();
        Check.done("TapeTest");
    }

    private static void feeds() {
        LineSetter x = new LineSetter();
        Check.answers("the first feed", () -> x.feed(0x61626364, 0x65666768, 0x696a6b6c, 0x6d6e6f70, 0x71727374), 20);
        Check.answers("the second feed", () -> x.feed(0x41424344, 0x45464748, 0x494a4b4c, 0x4d4e4f50, 0x51525354), 40);
        x.parts();
        Check.same("the order of the bytes", Check.out(x), "abcdefghijklmnopqrstABCDEFGHIJKLMNOPQRST");
        x.feed(0x80818283, -1, 0, 0, 0);
        Check.refuses("a negative int has bytes above 127", () -> x.run(1000), Check.UOE);
        Check.answers("its place", x::place, 0);
    }

    private static void ends() {
        LineSetter x = new LineSetter();
        Check.answers("end of an empty tape", () -> x.end(0), 0);
        Check.refuses("end behind an empty tape", () -> x.end(1), Check.IAE);
        Check.feed(x, "abcdefghij");
        Check.refuses("end below 0", () -> x.end(-1), Check.IAE);
        Check.refuses("end behind the tape", () -> x.end(11), Check.IAE);
        Check.answers("a refused end changes nothing", () -> x.count(0), 10);
        Check.answers("end at the length", () -> x.end(10), 10);
        Check.answers("end", () -> x.end(3), 3);
        Check.answers("the length behind end", () -> x.count(0), 3);
        x.parts();
        Check.same("end keeps the first bytes", Check.out(x), "abc");
    }

    private static void fills() {
        LineSetter x = new LineSetter();
        int a = 0x61616161;
        for (int i = 1; i <= 409; i++) {
            x.feed(a, a, a, a, a);
        }
        Check.answers("409 feeds", () -> x.count(0), 8180);
        Check.refuses("8200 bytes", () -> x.feed(a, a, a, a, a), Check.IOOBE);
        Check.answers("a refused feed changes nothing", () -> x.count(0), 8180);
        x.end(8173);
        Check.refuses("8193 bytes", () -> x.feed(a, a, a, a, a), Check.IOOBE);
        x.end(8172);
        Check.answers("8192 bytes", () -> x.feed(a, a, a, a, a), 8192);
        Check.refuses("8212 bytes", () -> x.feed(a, a, a, a, a), Check.IOOBE);
        Check.answers("the width of a full tape", () -> x.width(100000), 8192L * 50000);
        x.feed(a, a, a, a, a);
        x.end(12);
        Check.answers("a tape is used again", () -> x.feed(a, a, a, a, a), 32);
    }

    private static void words() {
        LineSetter x = new LineSetter();
        Check.refuses("word of an empty out", () -> x.word(0), Check.IOOBE);
        Check.parts(x, "abcdefghij");
        Check.answers("word 0", () -> x.word(0), 0x6162636465666768L);
        Check.answers("word 2", () -> x.word(2), 0x636465666768696aL);
        Check.answers("zeros behind the end", () -> x.word(7), 0x68696a0000000000L);
        Check.answers("the last byte", () -> x.word(9), 0x6a00000000000000L);
        Check.refuses("word behind the end", () -> x.word(10), Check.IOOBE);
        Check.refuses("word below 0", () -> x.word(-1), Check.IOOBE);
        Check.refuses("word of the greatest int", () -> x.word(Integer.MAX_VALUE), Check.IOOBE);
        Check.parts(x, "xyz");
        Check.answers("nothing of a longer out stays", () -> x.word(0), 0x78797a0000000000L);
    }

    private static void counts() {
        LineSetter x = new LineSetter();
        Check.run(x, "seven b ", 1000);
        Check.parts(x, "abc");
        Check.feed(x, "12345");
        Check.answers("count of the tape", () -> x.count(0), 5);
        Check.answers("count of out", () -> x.count(1), 3);
        Check.answers("count of the paragraph", () -> x.count(2), 7);
        Check.refuses("count -1", () -> x.count(-1), Check.IAE);
        Check.refuses("count 3", () -> x.count(3), Check.IAE);
    }

    private static void emptied(LineSetter x, String call, String tape, Check.Call reader, String due) {
        Check.feed(x, tape);
        Check.same(call, Check.outcome(reader), due);
        Check.answers("the tape behind " + call, () -> x.count(0), 0);
    }

    private static void readersEmptyTheTape() {
        LineSetter x = new LineSetter();
        emptied(x, "font", "width \"a\" 1;", x::font, "1");
        emptied(x, "a broken font", "?", x::font, "throws." + Check.UOE);
        emptied(x, "hyphens", "a1b", x::hyphens, "1");
        emptied(x, "broken hyphens", "?", x::hyphens, "throws." + Check.UOE);
        emptied(x, "judge while nothing is set", "\0\1", x::judge, "throws." + Check.ISE);
        emptied(x, "run", "ab", () -> x.run(1000), "2");
        emptied(x, "run of a wrong byte", "\1", () -> x.run(1000), "throws." + Check.UOE);
        emptied(x, "run of a wrong size", "ab", () -> x.run(999), "throws." + Check.IAE);
        x.set(1000, 0, 0, 0, 1);
        emptied(x, "a judge of wrong breaks", "\0", x::judge, "throws." + Check.IAE);
        emptied(x, "parts", "ab", x::parts, "2");
        emptied(x, "parts of a wrong byte", "a b", x::parts, "throws." + Check.IAE);
        emptied(x, "width", "bb", () -> x.width(1000), "1000");
        emptied(x, "width of a wrong byte", "\n", () -> x.width(1000), "throws." + Check.IAE);
        emptied(x, "width of a wrong size", "ab", () -> x.width(0), "throws." + Check.IAE);
        Check.feed(x, "abc");
        x.set(1000, 0, 0, 0, 1);
        x.text(0);
        x.clear();
        Check.answers("set, text and clear leave the tape", () -> x.count(0), 3);
    }
}
