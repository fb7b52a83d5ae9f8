/** Promise 1, and what an object answers while nothing is SET. */
public final class NewObjectTest {
    public static void main(String[] args) {
        LineSetter x = new LineSetter();
        Check.answers("the tape of a new object", () -> x.count(0), 0);
        Check.answers("the out of a new object", () -> x.count(1), 0);
        Check.answers("the paragraph of a new object", () -> x.count(2), 0);
        Check.answers("the place of a new object", x::place, -1);
        for (int b = 32; b <= 126; b++) {
            String text = Character.toString((char) b);
            Check.answers("the width of byte " + b, () -> Check.width(x, text, 1000), 500);
        }
        Check.same("parts without patterns", Check.parts(x, "hyphenation"), "hyphenation");
        Check.answers("clear of no paragraph", x::clear, 0);
        Check.refuses("set of no paragraph", () -> x.set(1000, 0, 0, 0, 1), Check.ISE);
        Check.refuses("told", () -> x.told(0), Check.ISE);
        Check.refuses("at", () -> x.at(1, 0), Check.ISE);
        Check.refuses("line", () -> x.line(0, 0), Check.ISE);
        Check.refuses("spot", () -> x.spot(0, 0), Check.ISE);
        Check.refuses("text", () -> x.text(0), Check.ISE);
        Check.refuses("judge", x::judge, Check.ISE);
        Check.done("NewObjectTest");
    }
}
