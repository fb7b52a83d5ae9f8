/** Promise 15: judge. */
public final class JudgeTest {
    public static void main(String[] args) {
        costs();
        notAllowed();
        wrongBreaks();
        Check.done("JudgeTest");
    }

    private static LineSetter of(String text, int width, int align, int tolerance) {
        LineSetter x = new LineSetter();
        Check.run(x, text, 1000);
        x.set(width, 0, align, 1, tolerance);
        return x;
    }

    private static void costs() {
        LineSetter x = of("aaa bbb ccc-ddd", 3500, 0, 10000);
        Check.answers("the row that was chosen", () -> x.told(0), 200);
        Check.answers("its cost", () -> Check.judge(x, 2), 200);
        Check.answers("a dearer row", () -> Check.judge(x, 2, 3), 100 + (100200100 + 900 + 10000) + (100 + 5000 + 10000));
        Check.answers("the class of the line before counts", () -> Check.judge(x, 1, 2),
                100210100 + 100200100 + 10100);
        Check.answers("judge changes nothing that was set", () -> x.told(0), 200);
        LineSetter y = of("a", 3500, 0, 10000);
        Check.answers("no breaks but the end", () -> Check.judge(y), 100);
    }

    private static void notAllowed() {
        LineSetter x = of("aaa bbb ccc ddd", 3500, 0, 100);
        Check.answers("the tolerance was taken", () -> x.told(1), 100);
        Check.answers("within it", () -> Check.judge(x, 2), 200);
        Check.answers("a badness above it", () -> Check.judge(x, 1, 2), -1);
        Check.answers("a line that is too long", () -> Check.judge(x), -1);
        LineSetter y = of("aaa bbb ccc ddd", 3400, 1, 1);
        Check.answers("10000 was taken", () -> y.told(1), 10000);
        Check.answers("a line that is too long by 10000", () -> Check.judge(y, 2), -1);
        LineSetter z = of("aaaa bb", 1000, 0, 1);
        Check.answers("10001 was taken", () -> z.told(1), 10001);
        Check.answers("then it is allowed", () -> Check.judge(z), 1100200100L + 3500 - 166 - 1000);
        Check.answers("and so are two lines", () -> Check.judge(z, 1), 1100200100L + 1000 + 100);
    }

    private static void refused(LineSetter x, String tape) {
        Check.feed(x, tape);
        Check.refuses("judge of wrong breaks", x::judge, Check.IAE);
    }

    private static void wrongBreaks() {
        LineSetter x = of("a b c d", 1000000, 0, 1);
        refused(x, "\0");
        refused(x, "\0\0");
        refused(x, "\0\4");
        refused(x, "\0\1\0\4");
        refused(x, "\0\1\0");
        refused(x, "\0\2\0\1");
        refused(x, "\0\2\0\2");
        refused(x, "\1\0");
        refused(x, "\u00ff\u00ff");
        refused(x, "\0\1\0\2\0\3\0\3");
        Check.answers("nothing is changed by them", () -> x.told(3), 1);
        LineSetter y = of("a ".repeat(300), 1000, 1, 10000);
        Check.answers("the higher byte is first", () -> Check.judge(y, 256) , -1);
        Check.feed(y, "\1\54");
        Check.refuses("300 is the end", y::judge, Check.IAE);
    }
}
