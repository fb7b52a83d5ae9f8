/** The order of exceptions, and that a call that throws changes nothing: for the calls whose own test does not say so. */
public final class RefusalEdgesTest {
    private static final String LONG = "a".repeat(4001);

    public static void main(String[] args) {
        numbersAheadOfNothingSet();
        numbersAheadOfAll();
        nothingSetAheadOfTheRest();
        wrongBytesAheadOfTooMany();
        refusedFeed();
        refusedEnd();
        refusedWord();
        refusedCount();
        newObject();
        Check.done("RefusalEdgesTest");
    }

    private static void numbersAheadOfNothingSet() {
        Check.sentence("in this order: IllegalArgumentException: a number out of range; IllegalStateException: nothing is SET");
        Twins.Ask[] calls = {x -> x.told(-1), x -> x.told(6), x -> x.at(1, -1), x -> x.at(1, 4), x -> x.at(0, 0), x -> x.line(0, -1), x -> x.line(0, 8),
            x -> x.line(-1, 0), x -> x.spot(-1, 0), x -> x.text(-1), x -> x.set(999, 0, 0, 0, 1), x -> x.set(1000, -1, 0, 0, 1),
            x -> x.set(1000, 0, 4, 0, 1), x -> x.set(1000, 0, 0, 2, 1), x -> x.set(1000, 0, 0, 0, 0)};
        for (int i = 0; i < calls.length; i++) {
            Twins.refused("call " + i, Twins::unset, calls[i], Check.IAE);
        }
    }

    private static LineSetter crowded() {
        LineSetter x = new LineSetter();
        Check.run(x, "a ".repeat(601), 1000);
        return x;
    }

    private static void numbersAheadOfAll() {
        Check.sentence("IllegalArgumentException ahead of what is told for a call");
        Twins.refused("run of a wrong size and byte", Twins::busy, "a\1", x -> x.run(999), Check.IAE, -1);
        Twins.refused("run of a wrong size and 4001 bytes", Twins::busy, LONG, x -> x.run(100001), Check.IAE, -1);
        Check.refuses("set of a wrong number and 601 breaks", () -> crowded().set(1000, 0, 0, 0, 10001), Check.IAE);
        Check.refuses("set of 601 breaks", () -> crowded().set(1000, 0, 0, 0, 10000), Check.IOOBE);
        Twins.refused("spot of no line and no word", Twins::busy, x -> x.spot(99, 99), Check.IAE);
        Twins.refused("spot of line -1 and no word", Twins::busy, x -> x.spot(-1, -1), Check.IAE);
    }

    private static void nothingSetAheadOfTheRest() {
        Check.sentence("IllegalStateException: nothing is SET, where that is needed; then as told");
        Twins.refused("spot of no word", Twins::unset, x -> x.spot(0, -1), Check.ISE);
        Twins.refused("judge of an odd tape", Twins::unset, "\0", LineSetter::judge, Check.ISE, Twins.PLACE);
        Check.sentence("where that is needed");
        LineSetter x = Twins.unset();
        Check.answers("parts", x::parts, 3);
        Check.answers("width", () -> x.width(1000), 0);
        Check.answers("word", () -> x.word(0), 0x6242610000000000L);
        Check.answers("count", () -> x.count(1), 3);
        Check.answers("run", () -> x.run(1000), 0);
        Check.answers("font", x::font, 0);
        Check.answers("hyphens", x::hyphens, 0);
        Check.answers("clear", x::clear, 0);
        Check.answers("place", x::place, -1);
    }

    private static void wrongBytesAheadOfTooMany() {
        Check.sentence("then as told: another byte, then more than 4000");
        Twins.refused("4001 bytes and a wrong one", Twins::busy, LONG + "\1", x -> x.run(1000), Check.UOE, 4001);
        Twins.refused("a wrong byte and 4001", Twins::busy, "\1" + LONG, x -> x.run(1000), Check.UOE, 0);
        Twins.refused("4001 bytes", Twins::busy, LONG, x -> x.run(1000), Check.IOOBE, -1);
    }

    private static void refusedFeed() {
        Check.sentence("A call that throws changes nothing: feed");
        int a = 0x7a7a7a7a;
        for (int n : new int[] {8173, 8192}) {
            LineSetter x = new LineSetter();
            Check.feed(x, "b".repeat(n));
            Check.refuses("feed", () -> x.feed(a, a, a, a, a), Check.IOOBE);
            Check.refuses("feed again", () -> x.feed(a, a, a, a, a), Check.IOOBE);
            Check.answers("the length", () -> x.count(0), n);
            x.end(60);
            x.parts();
            Check.same("the first bytes", Check.out(x), "b".repeat(60));
            LineSetter y = new LineSetter();
            Check.font(y, "width\"z\"5000;width\"b\"1;");
            Check.feed(y, "b".repeat(n));
            Check.outcome(() -> y.feed(a, a, a, a, a));
            Check.answers("all bytes", () -> y.width(1000), n);
        }
    }

    private static void refusedEnd() {
        Check.sentence("A call that throws changes nothing: end");
        for (int n : new int[] {-1, 4, 8192, Integer.MIN_VALUE, Integer.MAX_VALUE}) {
            Twins.refused("end " + n, Twins::busy, x -> x.end(n), Check.IAE);
        }
    }

    private static void refusedWord() {
        Check.sentence("A call that throws changes nothing: word");
        for (int i : new int[] {-1, 9, 6000, Integer.MIN_VALUE, Integer.MAX_VALUE}) {
            Twins.refused("word " + i, Twins::busy, x -> x.word(i), Check.IOOBE);
        }
    }

    private static void refusedCount() {
        Check.sentence("A call that throws changes nothing: count");
        for (int what : new int[] {-1, 3, Integer.MIN_VALUE, Integer.MAX_VALUE}) {
            Twins.refused("count " + what, Twins::busy, x -> x.count(what), Check.IAE);
        }
    }

    private static void newObject() {
        Check.sentence("All widths 500, no patterns, no PARAGRAPH, nothing SET");
        LineSetter x = new LineSetter();
        Check.answers("tape", () -> x.count(0), 0);
        Check.answers("out", () -> x.count(1), 0);
        Check.answers("paragraph", () -> x.count(2), 0);
        Check.answers("place", x::place, -1);
        Check.refuses("word", () -> x.word(0), Check.IOOBE);
        Check.refuses("end", () -> x.end(1), Check.IAE);
        Check.refuses("told", () -> x.told(0), Check.ISE);
        Check.refuses("at", () -> x.at(1, 0), Check.ISE);
        Check.refuses("line", () -> x.line(0, 0), Check.ISE);
        Check.refuses("spot", () -> x.spot(0, 0), Check.ISE);
        Check.refuses("text", () -> x.text(0), Check.ISE);
        Check.refuses("judge", x::judge, Check.ISE);
        Check.refuses("set", () -> x.set(1000, 0, 0, 1, 1), Check.ISE);
        Check.refuses("parts", x::parts, Check.IAE);
        Check.answers("width of nothing", () -> x.width(1000), 0);
        StringBuilder all = new StringBuilder();
        for (char b = 32; b <= 126; b++) {
            all.append(b);
        }
        Check.answers("all widths, no kern, no join", () -> Check.width(x, all.toString(), 1000), 95 * 500);
        Check.same("no patterns", Check.parts(x, "hyphenationHYPHENATION"), "hyphenationHYPHENATION");
    }
}
