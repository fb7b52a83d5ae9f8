/** THE TAPE, OUT and promises 2, 3, 18 and 19, sentence by sentence at their bounds. */
public final class TapeEdgesTest {
    private static final int A = 0x61616161;

    public static void main(String[] args) {
        tapeLimit();
        tapeFull();
        tapeEmpty();
        readersLeaveItEmpty();
        refusedReadersLeaveItEmpty();
        othersLeaveIt();
        outLimit();
        feedOrder();
        endRange();
        wordRange();
        wordZeros();
        countRange();
        lastCall();
        Check.done("TapeEdgesTest");
    }

    private static void tapeLimit() {
        Check.sentence("it would have more than 8192: IndexOutOfBoundsException. Answers its length");
        int[][] fits = {{0, 20}, {1, 21}, {8171, 8191}, {8172, 8192}};
        for (int[] n : fits) {
            LineSetter x = fed(n[0]);
            Check.answers("feed onto " + n[0], () -> x.feed(A, A, A, A, A), n[1]);
            Check.answers("the length behind it", () -> x.count(0), n[1]);
        }
        for (int n : new int[] {8173, 8180, 8191, 8192}) {
            LineSetter x = fed(n);
            Check.refuses("feed onto " + n, () -> x.feed(A, A, A, A, A), Check.IOOBE);
            Check.answers("the length behind it", () -> x.count(0), n);
            Check.answers("the place behind it", x::place, -1);
            Check.answers("the bytes behind it", () -> x.width(1000), n * 500L);
        }
        LineSetter x = fed(8192);
        Check.refuses("feed onto a full tape", () -> x.feed(0, 0, 0, 0, 0), Check.IOOBE);
        x.end(60);
        Check.answers("its first bytes are letters still", x::parts, 60);
        Check.same("they are the same", Check.out(x), "a".repeat(60));
    }

    /** A tape of n bytes a, in so few calls that some are left of the 512. */
    private static LineSetter fed(int n) {
        LineSetter x = new LineSetter();
        int length = 0;
        while (length + 20 <= n) {
            length = x.feed(A, A, A, A, A);
        }
        if (length < n && length + 20 <= 8192) {
            x.feed(A, A, A, A, A);
            x.end(n);
        } else if (length < n) {
            x.end(n - 20);
            x.feed(A, A, A, A, A);
        }
        return x;
    }

    private static void tapeFull() {
        Check.sentence("THE TAPE has at most 8192 bytes");
        LineSetter x = new LineSetter();
        Check.feed(x, " ".repeat(8191) + "?");
        Check.refuses("a font whose last byte of 8192 is wrong", x::font, Check.UOE);
        Check.answers("its place", x::place, 8191);
        LineSetter y = new LineSetter();
        Check.feed(y, "width" + " ".repeat(8187));
        Check.refuses("a font of 8192 bytes with something missing", y::font, Check.UOE);
        Check.answers("its place", y::place, 8192);
        LineSetter z = new LineSetter();
        Check.feed(z, " ".repeat(8191) + "\1");
        Check.refuses("a run whose last byte of 8192 is wrong", () -> z.run(1000), Check.UOE);
        Check.answers("its place", z::place, 8191);
        LineSetter w = new LineSetter();
        Check.feed(w, "ends" + "\n".repeat(8188));
        Check.refuses("hyphens of 8192 bytes with something missing", w::hyphens, Check.UOE);
        Check.answers("its place", w::place, 8192);
        LineSetter v = new LineSetter();
        Check.feed(v, "1a" + " ".repeat(8183) + "ends 11");
        Check.answers("hyphens of 8192 bytes", v::hyphens, 1);
        Check.same("their last word is read", Check.parts(v, "aaa"), "a-a-a");
        LineSetter u = fed(8192);
        Check.answers("the width of 8192 bytes", () -> u.width(100000), 8192L * 50000);
        Check.answers("it is empty then", () -> u.count(0), 0);
        Check.answers("and takes bytes again", () -> u.feed(A, A, A, A, A), 20);
    }

    private static void tapeEmpty() {
        Check.sentence("calls that read an empty TAPE");
        LineSetter x = new LineSetter();
        Check.answers("font", x::font, 0);
        Check.answers("hyphens", x::hyphens, 0);
        Check.answers("run", () -> x.run(1000), 0);
        Check.answers("place", x::place, -1);
        Check.answers("width", () -> x.width(1000), 0);
        Check.refuses("parts", x::parts, Check.IAE);
        Check.run(x, "a b", 1000);
        x.set(1000000, 0, 0, 0, 1);
        Check.answers("judge", x::judge, 100);
    }

    private static void reads(String what, LineSetter x, String tape, Check.Call call, String due) {
        Check.feed(x, tape);
        Check.same(what, Check.outcome(call), due);
        Check.answers("the tape behind " + what, () -> x.count(0), 0);
    }

    private static void readersLeaveItEmpty() {
        Check.sentence("A call that reads THE TAPE leaves it empty");
        LineSetter x = new LineSetter();
        reads("font", x, "width \"a\" 500;", x::font, "1");
        reads("hyphens", x, "a1b", x::hyphens, "1");
        reads("run", x, "a b ", () -> x.run(1000), "3");
        reads("run of blanks", x, "  ", () -> x.run(1000), "3");
        x.set(1000000, 0, 0, 0, 1);
        reads("judge", x, "\0\1", x::judge, "-1");
        reads("parts", x, "abc", x::parts, "3");
        reads("width", x, "abc", () -> x.width(1000), "1500");
    }

    private static void refusedReadersLeaveItEmpty() {
        Check.sentence("leaves it empty, also if it throws");
        LineSetter x = new LineSetter();
        reads("a broken font", x, "width", x::font, "throws." + Check.UOE);
        reads("broken hyphens", x, "ends", x::hyphens, "throws." + Check.UOE);
        reads("run of size 999", x, "ab", () -> x.run(999), "throws." + Check.IAE);
        reads("run of size 100001", x, "ab", () -> x.run(100001), "throws." + Check.IAE);
        reads("run of a wrong byte", x, "ab\t", () -> x.run(1000), "throws." + Check.UOE);
        reads("judge while nothing is set", x, "\0\1", x::judge, "throws." + Check.ISE);
        reads("parts of a wrong byte", x, "a-b", x::parts, "throws." + Check.IAE);
        reads("parts of 61 bytes", x, "a".repeat(61), x::parts, "throws." + Check.IAE);
        reads("width of size 999", x, "ab", () -> x.width(999), "throws." + Check.IAE);
        reads("width of size 100001", x, "ab", () -> x.width(100001), "throws." + Check.IAE);
        reads("width of a wrong byte", x, "ab\n", () -> x.width(1000), "throws." + Check.IAE);
        LineSetter y = new LineSetter();
        reads("run of 4001 bytes", y, "a".repeat(4001), () -> y.run(1000), "throws." + Check.IOOBE);
        Check.run(y, "a b", 1000);
        y.set(1000, 0, 0, 0, 1);
        reads("judge of an odd tape", y, "\0\1\0", y::judge, "throws." + Check.IAE);
        reads("judge of the end", y, "\0\2", y::judge, "throws." + Check.IAE);
    }

    private static void othersLeaveIt() {
        Check.sentence("calls that do not read THE TAPE leave it as it is");
        LineSetter x = Twins.busy();
        Check.Call[] calls = {x::place, () -> x.count(0), () -> x.count(9), () -> x.word(0), () -> x.word(-1), () -> x.set(2000, 0, 0, 1, 1),
            () -> x.set(0, 0, 0, 0, 0), () -> x.told(0), () -> x.told(9), () -> x.at(1, 0), () -> x.at(0, 0), () -> x.line(0, 0),
            () -> x.line(-1, 0), () -> x.spot(0, 0), () -> x.spot(0, -1), () -> x.text(0), () -> x.text(-1), x::clear, () -> x.end(4)};
        for (Check.Call call : calls) {
            Check.outcome(call);
            Check.answers("the tape's length", () -> x.count(0), 3);
        }
        x.parts();
        Check.same("the tape", Check.out(x), "bBa");
    }

    private static void outLimit() {
        Check.sentence("OUT at most 6000");
        LineSetter x = new LineSetter();
        Check.run(x, "b" + "a".repeat(3998) + "z", 1000);
        x.set(1000000, 0, 1, 0, 1);
        Check.answers("the longest line", () -> x.text(0), 4000);
        Check.answers("its length", () -> x.count(1), 4000);
        Check.answers("its first bytes", () -> x.word(0), 0x6261616161616161L);
        Check.answers("its last eight", () -> x.word(3992), 0x616161616161617aL);
        Check.answers("its last seven", () -> x.word(3993), 0x6161616161617a00L);
        Check.answers("its last byte", () -> x.word(3999), 0x7a00000000000000L);
        Check.refuses("behind it", () -> x.word(4000), Check.IOOBE);
        LineSetter y = new LineSetter();
        Check.font(y, "width \"a\" 2; width \"-\" 0;");
        Check.hyphens(y, "ends 11 aa1a.");
        Check.run(y, "a".repeat(4000), 1000);
        Check.answers("the longest word, parted", () -> y.set(7998, 0, 0, 1, 1), 2);
        Check.answers("with its -", () -> y.text(0), 4000);
        Check.answers("which is the last byte", () -> y.word(3992), 0x616161616161612dL);
    }

    private static void feedOrder() {
        Check.sentence("The 20 bytes of five ints, the highest of each first, come to THE TAPE");
        LineSetter x = new LineSetter();
        Check.answers("the first", () -> x.feed(0x61626364, 0x65666768, 0x696a6b6c, 0x6d6e6f70, 0x71727374), 20);
        Check.answers("the second", () -> x.feed(0x41424344, 0x45464748, 0x494a4b4c, 0x4d4e4f50, 0x5152537a), 40);
        x.parts();
        Check.same("all of them", Check.out(x), "abcdefghijklmnopqrstABCDEFGHIJKLMNOPQRSz");
        for (int i = 0; i < 20; i++) {
            int[] n = {0x20202020, 0x20202020, 0x20202020, 0x20202020, 0x20202020};
            n[i / 4] |= 0xdf << 8 * (3 - i % 4);
            LineSetter y = new LineSetter();
            y.feed(n[0], n[1], n[2], n[3], n[4]);
            Check.refuses("a byte of 255", () -> y.run(1000), Check.UOE);
            Check.answers("its place", y::place, i);
        }
    }

    private static void endRange() {
        Check.sentence("THE TAPE keeps its first n bytes, n 0 .. its length. Answers n");
        for (int n : new int[] {0, 1, 4, 5}) {
            LineSetter x = new LineSetter();
            Check.feed(x, "abcde");
            Check.answers("end " + n, () -> x.end(n), n);
            Check.answers("the length", () -> x.count(0), n);
            Check.outcome(x::parts);
            Check.same("the first bytes", Check.out(x), "abcde".substring(0, n));
        }
        for (int n : new int[] {-1, 6, 8192, Integer.MIN_VALUE, Integer.MAX_VALUE}) {
            LineSetter x = new LineSetter();
            Check.feed(x, "abcde");
            Check.refuses("end " + n, () -> x.end(n), Check.IAE);
            Check.answers("the length", () -> x.count(0), 5);
            x.parts();
            Check.same("all bytes", Check.out(x), "abcde");
        }
        LineSetter x = new LineSetter();
        Check.answers("end 0 of an empty tape", () -> x.end(0), 0);
        Check.refuses("end 1 of an empty tape", () -> x.end(1), Check.IAE);
        LineSetter y = fed(8192);
        Check.refuses("end 8193 of a full tape", () -> y.end(8193), Check.IAE);
        Check.answers("end 8192 of a full tape", () -> y.end(8192), 8192);
        Check.answers("end 8191 of a full tape", () -> y.end(8191), 8191);
        Check.refuses("what was cut off is not kept", () -> y.end(8192), Check.IAE);
    }

    private static void wordRange() {
        Check.sentence("i is none of its bytes: IndexOutOfBoundsException");
        LineSetter x = new LineSetter();
        for (int i : new int[] {-1, 0, 1}) {
            Check.refuses("word " + i + " of an empty OUT", () -> x.word(i), Check.IOOBE);
        }
        Check.parts(x, "abcdefgh");
        Check.answers("word 0", () -> x.word(0), 0x6162636465666768L);
        Check.answers("word 7", () -> x.word(7), 0x6800000000000000L);
        for (int i : new int[] {-8, -1, 8, 9, 6000, Integer.MIN_VALUE, Integer.MAX_VALUE, Integer.MAX_VALUE - 7}) {
            Check.refuses("word " + i, () -> x.word(i), Check.IOOBE);
        }
        Check.answers("OUT behind them", () -> x.word(0), 0x6162636465666768L);
    }

    private static void wordZeros() {
        Check.sentence("8 bytes of OUT from i on, the highest first, zeros behind its end");
        LineSetter x = new LineSetter();
        Check.parts(x, "ABCDEFGHIJKLMNOPQ");
        Check.answers("from 8 on", () -> x.word(8), 0x494a4b4c4d4e4f50L);
        Check.answers("from 9 on", () -> x.word(9), 0x4a4b4c4d4e4f5051L);
        Check.answers("from 10 on", () -> x.word(10), 0x4b4c4d4e4f505100L);
        Check.parts(x, "xy");
        Check.answers("a shorter OUT", () -> x.word(0), 0x7879000000000000L);
        Check.answers("its second byte", () -> x.word(1), 0x7900000000000000L);
        Check.refuses("no byte of the longer one", () -> x.word(2), Check.IOOBE);
    }

    private static void countRange() {
        Check.sentence("what 0: bytes of THE TAPE, 1: of OUT, 2: of THE PARAGRAPH");
        LineSetter x = Twins.busy();
        Check.answers("count 0", () -> x.count(0), 3);
        Check.answers("count 1", () -> x.count(1), 9);
        Check.answers("count 2", () -> x.count(2), 23);
        for (int what : new int[] {-1, 3, Integer.MIN_VALUE, Integer.MAX_VALUE}) {
            Check.refuses("count " + what, () -> x.count(what), Check.IAE);
        }
    }

    private static void lastCall() {
        Check.sentence("An object is used for at most 512 calls");
        LineSetter x = new LineSetter();
        x.feed(0x61206220, 0x63206420, 0x65206620, 0x67206820, 0x69206a20);
        x.run(1000);
        for (int call = 3; call <= 511; call++) {
            x.set(1000 + 500 * (call % 5), 0, call % 4, 0, 1);
        }
        Check.answers("the 512th", () -> x.told(0), 100 * 5);
    }
}
