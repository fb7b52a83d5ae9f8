/** Promises 6, 7 and 8: place, run, clear. */
public final class ParagraphTest {
    public static void main(String[] args) {
        blanks();
        sizes();
        wrongBytes();
        limits();
        clears();
        Check.done("ParagraphTest");
    }

    private static String whole(LineSetter x) {
        x.set(1000000, 0, 1, 0, 10000);
        return Check.text(x, 0);
    }

    private static void blanks() {
        LineSetter x = new LineSetter();
        Check.answers("an empty run", () -> x.run(1000), 0);
        Check.answers("blanks alone", () -> Check.run(x, " \n ", 1000), 0);
        Check.refuses("are no paragraph", () -> x.set(1000, 0, 0, 0, 1), Check.ISE);
        Check.answers("blanks ahead", () -> Check.run(x, "\n ab", 1000), 2);
        Check.answers("blanks at the end", () -> Check.run(x, "c \n ", 1000), 3);
        Check.answers("count of them", () -> x.count(2), 3);
        Check.same("the text without", whole(x), "abc");
        Check.answers("more blanks", () -> Check.run(x, "  ", 1000), 3);
        Check.answers("blanks that are followed are one", () -> Check.run(x, "\n d\n\ne", 1000), 7);
        Check.same("the text with them", whole(x), "abc d e");
        Check.answers("no blank between runs", () -> Check.run(x, "f~!\"", 1000), 11);
        Check.same("the text without one", whole(x), "abc d ef~!\"");
    }

    private static void sizes() {
        LineSetter x = new LineSetter();
        Check.run(x, "a ", 2000);
        Check.run(x, "  ", 5000);
        Check.run(x, " b", 3000);
        Check.run(x, "c", 4000);
        x.set(1000000, 0, 1, 0, 10000);
        Check.answers("the first blank's size counts", () -> x.at(1, 3), 1000);
        Check.answers("the sizes of the bytes", () -> x.at(2, 2), 1000 + 1500 + 2000);
        LineSetter y = new LineSetter();
        Check.refuses("size 999", () -> Check.run(y, "a", 999), Check.IAE);
        Check.refuses("size 100001", () -> Check.run(y, "a", 100001), Check.IAE);
        Check.answers("refused runs change nothing", () -> y.count(2), 0);
        Check.answers("size 1000", () -> Check.run(y, "a", 1000), 1);
        Check.answers("size 100000", () -> Check.run(y, "a", 100000), 2);
        Check.refuses("a wrong size is thrown ahead of a wrong byte", () -> Check.run(y, "\1", 0), Check.IAE);
        Check.answers("and leaves no place", y::place, -1);
    }

    private static void wrong(String text, int place) {
        LineSetter x = new LineSetter();
        Check.run(x, "ab ", 2000);
        Check.refuses("run of a wrong byte", () -> Check.run(x, text, 1000), Check.UOE);
        Check.answers("its place", x::place, place);
        Check.answers("the paragraph stays", () -> x.count(2), 2);
        Check.run(x, "c", 1000);
        Check.answers("the latest run was right", x::place, -1);
        x.set(1000000, 0, 1, 0, 10000);
        Check.answers("its blank stays", () -> x.at(1, 3), 1000);
        Check.same("its text stays", Check.text(x, 0), "ab c");
    }

    private static void wrongBytes() {
        wrong("\t", 0);
        wrong("abc\u001f\0", 3);
        wrong("  \u007f", 2);
        wrong("x\u0080", 1);
        wrong("x y z \u00ff", 6);
    }

    private static void limits() {
        LineSetter x = new LineSetter();
        String much = "a".repeat(3998);
        Check.answers("3998 bytes", () -> Check.run(x, much, 1000), 3998);
        Check.refuses("4001 bytes", () -> Check.run(x, "bbb", 1000), Check.IOOBE);
        Check.answers("no place", x::place, -1);
        Check.answers("nothing is changed", () -> x.count(2), 3998);
        Check.answers("4000 bytes and blanks", () -> Check.run(x, " b   \n", 1000), 4000);
        Check.answers("blanks at the end do not count", () -> Check.run(x, "   ", 1000), 4000);
        Check.refuses("one more", () -> Check.run(x, "c", 1000), Check.IOOBE);
        Check.refuses("a wrong byte is thrown first", () -> Check.run(x, "cccc\1", 1000), Check.UOE);
        Check.answers("its place", x::place, 4);
        Check.answers("an empty run", () -> x.run(1000), 4000);
        x.set(1000000, 0, 1, 0, 10000);
        Check.answers("the greatest text", () -> x.told(5), 4000L * 500);
        Check.answers("the greatest line", () -> x.text(0), 3998);
        LineSetter y = new LineSetter();
        Check.refuses("4001 bytes at once", () -> Check.run(y, much + "bbb", 1000), Check.IOOBE);
        Check.answers("nothing of them stays", () -> y.count(2), 0);
        Check.answers("4000 bytes at once", () -> Check.run(y, much + "bb", 1000), 4000);
        innerBlanks();
        LineSetter z = new LineSetter();
        String many = " ".repeat(1000) + much + " ".repeat(1000) + "b" + " ".repeat(1000);
        Check.answers("blanks that are none", () -> Check.run(z, many, 1000), 4000);
    }

    private static void innerBlanks() {
        LineSetter x = new LineSetter();
        Check.run(x, "a".repeat(3996), 1000);
        Check.refuses("4001 bytes with blanks", () -> Check.run(x, " b  b", 1000) + Check.run(x, "b", 1000), Check.IOOBE);
        Check.answers("4000 bytes with blanks", () -> x.count(2), 4000);
        LineSetter y = new LineSetter();
        Check.run(y, "a".repeat(3999), 1000);
        Check.refuses("a blank that is followed counts", () -> Check.run(y, " b", 1000), Check.IOOBE);
        Check.answers("a blank at the end does not", () -> Check.run(y, " ", 1000), 3999);
        Check.refuses("until it is followed", () -> Check.run(y, "b", 1000), Check.IOOBE);
        LineSetter z = new LineSetter();
        Check.run(z, "a".repeat(3996), 1000);
        Check.answers("one blank is one byte more", () -> Check.run(z, " bbb", 1000), 4000);
    }

    private static void clears() {
        LineSetter x = new LineSetter();
        Check.run(x, "ab cd ", 2000);
        x.set(1000000, 0, 1, 0, 10000);
        Check.answers("clear", x::clear, 5);
        Check.answers("the paragraph is none", () -> x.count(2), 0);
        Check.answers("clear again", x::clear, 0);
        Check.refuses("nothing to set", () -> x.set(1000, 0, 0, 0, 1), Check.ISE);
        Check.answers("what was set stays", () -> x.told(5), 5000);
        Check.answers("the waiting blank is none, too", () -> Check.run(x, "e", 1000), 1);
        Check.same("the old text stays until set", Check.text(x, 0), "ab cd");
        Check.same("the new one", whole(x), "e");
    }
}
