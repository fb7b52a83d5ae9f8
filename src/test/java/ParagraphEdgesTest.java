/** THE PARAGRAPH and promises 6, 7 and 8, sentence by sentence at their bounds. */
public final class ParagraphEdgesTest {
    public static void main(String[] args) {
        noneAtFirst();
        sizeRange();
        rightBytes();
        wrongBytes();
        blanksAhead();
        blanksInARow();
        blankSizes();
        blanksAtTheEnd();
        limitAtOnce();
        limitInTwo();
        limitWithBlanks();
        limitAndBlanksAtTheEnd();
        refusedRuns();
        clearFull();
        clearBlank();
        placeOfTheLatest();
        placeOfOthers();
        Check.done("ParagraphEdgesTest");
    }

    /** All of it in one line. */
    private static String whole(LineSetter x) {
        x.set(1000000, 0, 1, 0, 1);
        return Check.text(x, 0);
    }

    private static void noneAtFirst() {
        Check.sentence("THE PARAGRAPH: none at first");
        LineSetter x = new LineSetter();
        Check.answers("count", () -> x.count(2), 0);
        Check.refuses("set", () -> x.set(1000, 0, 0, 0, 1), Check.ISE);
        Check.answers("clear", x::clear, 0);
        Check.answers("an empty run", () -> x.run(1000), 0);
        Check.refuses("set behind it", () -> x.set(1000, 0, 0, 0, 1), Check.ISE);
        Check.answers("a run of blanks", () -> Check.run(x, " \n ", 1000), 0);
        Check.refuses("set behind them", () -> x.set(1000, 0, 0, 0, 1), Check.ISE);
        Check.answers("one byte", () -> Check.run(x, "a", 1000), 1);
        Check.answers("set of it", () -> x.set(1000, 0, 0, 0, 1), 1);
    }

    private static void sizeRange() {
        Check.sentence("run: size 1000 .. 100000");
        int[][] sizes = {{1000, 500}, {1001, 500}, {1002, 501}, {99999, 49999}, {100000, 50000}};
        for (int[] n : sizes) {
            LineSetter x = new LineSetter();
            Check.answers("run of size " + n[0], () -> Check.run(x, "a", n[0]), 1);
            x.set(1000000, 0, 0, 0, 1);
            Check.answers("its width", () -> x.told(5), n[1]);
        }
        for (int size : new int[] {999, 100001, 0, -1000, Integer.MIN_VALUE, Integer.MAX_VALUE}) {
            Twins.refused("run of size " + size, Twins::busy, "ab", x -> x.run(size), Check.IAE, -1);
            Twins.refused("an empty run of size " + size, Twins::unset, "", x -> x.run(size), Check.IAE, -1);
        }
    }

    private static void rightBytes() {
        Check.sentence("33 .. 126 and blanks; bytes 10 and 32 are blanks");
        StringBuilder all = new StringBuilder();
        for (char b = 33; b <= 126; b++) {
            all.append(b);
        }
        LineSetter x = new LineSetter();
        Check.answers("all of them", () -> Check.run(x, all.toString(), 1000), 94);
        x.set(1000000, 0, 1, 0, 1);
        Check.same("their text", Check.text(x, 0), all.toString());
        LineSetter y = new LineSetter();
        Check.answers("both blanks", () -> Check.run(y, "a\nb c", 1000), 5);
        Check.same("their text", whole(y), "a b c");
        Check.answers("they are glues", () -> y.told(2), 3);
    }

    private static void wrongBytes() {
        Check.sentence("Another byte: UnsupportedOperationException, its PLACE");
        for (int b : new int[] {0, 1, 9, 11, 13, 31, 127, 128, 160, 255}) {
            Twins.refused("run of byte " + b, Twins::busy, "" + (char) b, x -> x.run(1000), Check.UOE, 0);
            Twins.refused("run that ends with byte " + b, Twins::busy, "ab \n " + (char) b, x -> x.run(1000), Check.UOE, 5);
            Twins.refused("run with byte " + b, Twins::unset, " a" + (char) b + "b\1", x -> x.run(1000), Check.UOE, 2);
        }
    }

    private static void blanksAhead() {
        Check.sentence("blanks ahead of the first other byte are none");
        for (String blanks : new String[] {" ", "\n", "  ", " \n \n "}) {
            LineSetter x = new LineSetter();
            Check.answers("in one run", () -> Check.run(x, blanks + "ab", 1000), 2);
            Check.same("the text", whole(x), "ab");
            LineSetter y = new LineSetter();
            Check.answers("in a run of their own", () -> Check.run(y, blanks, 1000), 0);
            Check.answers("count", () -> y.count(2), 0);
            Check.run(y, blanks, 1000);
            Check.answers("the run behind them", () -> Check.run(y, blanks + "ab", 1000), 2);
            Check.same("the text", whole(y), "ab");
        }
    }

    private static void blanksInARow() {
        Check.sentence("more than one in a row are one");
        for (String blanks : new String[] {" ", "\n", "  ", "\n\n", " \n", "\n ", "          "}) {
            LineSetter x = new LineSetter();
            Check.answers("in one run", () -> Check.run(x, "a" + blanks + "b", 1000), 3);
            Check.same("the text", whole(x), "a b");
            LineSetter y = new LineSetter();
            Check.run(y, "a" + blanks, 1000);
            Check.run(y, blanks, 1000);
            Check.answers("in three runs", () -> Check.run(y, blanks + "b", 1000), 3);
            Check.same("the text", whole(y), "a b");
        }
        LineSetter z = new LineSetter();
        Check.run(z, "a", 1000);
        Check.answers("none between runs is none", () -> Check.run(z, "b", 1000), 2);
        Check.same("the text", whole(z), "ab");
    }

    private static long blankOf(int first, String firstText, int second, String secondText, int third, String thirdText) {
        LineSetter x = new LineSetter();
        Check.run(x, firstText, first);
        Check.run(x, secondText, second);
        Check.run(x, thirdText, third);
        x.set(1000000, 0, 1, 0, 1);
        return x.at(1, 3);
    }

    private static void blankSizes() {
        Check.sentence("more than one in a row are one, of the size of the first");
        Check.same("at the end of the first run", blankOf(2000, "a ", 4000, " ", 6000, " b"), 1000L);
        Check.same("in the second run alone", blankOf(2000, "a", 4000, " ", 6000, "b"), 2000L);
        Check.same("in the second and the third run", blankOf(2000, "a", 4000, "\n", 6000, " b"), 2000L);
        Check.same("at the beginning of the third run", blankOf(2000, "a", 4000, "", 6000, " b"), 3000L);
        Check.same("in the first and the third", blankOf(2000, "a\n", 4000, "", 6000, "\nb"), 1000L);
        Check.same("blanks ahead have no size", blankOf(2000, " ", 4000, "a ", 6000, "b"), 2000L);
    }

    private static void blanksAtTheEnd() {
        Check.sentence("one at the end is none as long as nothing follows");
        LineSetter x = new LineSetter();
        Check.answers("run", () -> Check.run(x, "ab  ", 1000), 2);
        Check.answers("count", () -> x.count(2), 2);
        Check.same("the text", whole(x), "ab");
        Check.answers("its breaks", () -> x.told(2), 1);
        Check.answers("its end", () -> x.at(1, 1), 2);
        Check.answers("an empty run follows", () -> x.run(1000), 2);
        Check.same("the text is the same", whole(x), "ab");
        Check.answers("something follows", () -> Check.run(x, "c", 1000), 4);
        Check.same("the text with the blank", whole(x), "ab c");
        Check.answers("its breaks", () -> x.told(2), 2);
        Check.answers("another byte follows", () -> Check.run(x, "d", 1000), 5);
        Check.same("the blank is used up", whole(x), "ab cd");
    }

    private static LineSetter with(String text) {
        LineSetter x = new LineSetter();
        Check.run(x, text, 1000);
        return x;
    }

    private static void limitAtOnce() {
        Check.sentence("more than 4000: IndexOutOfBoundsException");
        for (int n : new int[] {3999, 4000}) {
            LineSetter x = new LineSetter();
            Check.answers(n + " bytes", () -> Check.run(x, "a".repeat(n), 1000), n);
            Check.answers("count", () -> x.count(2), n);
            x.set(1000000, 0, 1, 0, 1);
            Check.answers("their width", () -> x.told(5), n * 500L);
        }
        for (int n : new int[] {4001, 8000}) {
            LineSetter x = new LineSetter();
            Check.refuses(n + " bytes", () -> Check.run(x, "a".repeat(n), 1000), Check.IOOBE);
            Check.answers("count", () -> x.count(2), 0);
            Check.answers("place", x::place, -1);
        }
    }

    private static void limitInTwo() {
        Check.sentence("more than 4000, in two runs");
        LineSetter x = with("a".repeat(3998));
        Check.answers("3999", () -> Check.run(x, "b", 1000), 3999);
        Check.refuses("4001", () -> Check.run(x, "cc", 1000), Check.IOOBE);
        Check.answers("nothing of them stays", () -> x.count(2), 3999);
        Check.answers("4000", () -> Check.run(x, "d", 1000), 4000);
        Check.refuses("4001", () -> Check.run(x, "e", 1000), Check.IOOBE);
        Check.answers("place", x::place, -1);
        Check.answers("an empty run", () -> x.run(1000), 4000);
        x.set(1000000, 0, 1, 0, 1);
        x.text(0);
        Check.answers("the text's end", () -> x.word(3996), 0x6161626400000000L);
    }

    private static void limitWithBlanks() {
        Check.sentence("more than 4000, blanks between counted");
        Check.answers("4000 with one blank", () -> with("a".repeat(3998) + "  b").count(2), 4000);
        Check.refuses("4001 with one blank", () -> with("a".repeat(3999) + " b").count(2), Check.IOOBE);
        Check.answers("many blanks are one", () -> with("a".repeat(3998) + " ".repeat(500) + "b").count(2), 4000);
        LineSetter x = with("a".repeat(3998));
        Check.refuses("a blank and two bytes", () -> Check.run(x, " bb", 1000), Check.IOOBE);
        Check.answers("a blank and one byte", () -> Check.run(x, " b", 1000), 4000);
        LineSetter y = with("a".repeat(3998) + " ");
        Check.refuses("a waiting blank and two bytes", () -> Check.run(y, "bb", 1000), Check.IOOBE);
        Check.answers("a waiting blank and one byte", () -> Check.run(y, " b", 1000), 4000);
        Check.answers("a blank behind the first byte", () -> with("a " + "b".repeat(3998)).count(2), 4000);
        Check.refuses("and one byte more", () -> with("a " + "b".repeat(3999)).count(2), Check.IOOBE);
        LineSetter z = with("a".repeat(3997));
        Check.refuses("two blanks and two bytes", () -> Check.run(z, " b b", 1000), Check.IOOBE);
        Check.answers("two blanks are there, one at the end", () -> Check.run(z, " bb ", 1000), 4000);
    }

    private static void limitAndBlanksAtTheEnd() {
        Check.sentence("blanks at the end do not count");
        LineSetter x = new LineSetter();
        Check.answers("4000 bytes and blanks", () -> Check.run(x, "a".repeat(4000) + " \n  ", 1000), 4000);
        Check.answers("more blanks", () -> Check.run(x, "   ", 1000), 4000);
        Check.refuses("a byte behind them", () -> Check.run(x, "b", 1000), Check.IOOBE);
        Check.answers("count", () -> x.count(2), 4000);
        LineSetter y = new LineSetter();
        Check.answers("3999 bytes and a blank", () -> Check.run(y, "a".repeat(3999) + " ", 1000), 3999);
        Check.refuses("a byte behind it is the 4001st", () -> Check.run(y, "b", 1000), Check.IOOBE);
        Check.answers("count", () -> y.count(2), 3999);
        LineSetter z = new LineSetter();
        Check.answers("blanks ahead do not count either", () -> Check.run(z, " ".repeat(4000) + "a".repeat(4000), 1000), 4000);
    }

    private static void refusedRuns() {
        Check.sentence("A call that throws changes nothing, but THE TAPE and PLACE: run");
        Twins.refused("run of 4001 bytes", Twins::busy, "a".repeat(4001), x -> x.run(1000), Check.IOOBE, -1);
        Twins.refused("run of 4001 bytes with what is there", Twins::busy, "a".repeat(3977), x -> x.run(1000), Check.IOOBE, -1);
        Twins.refused("run of blanks and a wrong byte", Twins::busy, "  \1", x -> x.run(1000), Check.UOE, 2);
        Twins.refused("run of 4001 bytes onto nothing", Twins::unset, "a".repeat(4001), x -> x.run(1000), Check.IOOBE, -1);
        LineSetter x = Twins.busy();
        x.end(0);
        Check.answers("one byte less", () -> Check.run(x, "a".repeat(3976), 1000), 4000);
    }

    private static void clearFull() {
        Check.sentence("clear: THE PARAGRAPH is none. Answers how many bytes it had");
        LineSetter x = with("a".repeat(4000));
        Check.answers("a full one", x::clear, 4000);
        Check.answers("count", () -> x.count(2), 0);
        Check.answers("an empty one", x::clear, 0);
        Check.refuses("set", () -> x.set(1000, 0, 0, 0, 1), Check.ISE);
        Check.answers("it takes bytes again", () -> Check.run(x, "b".repeat(1000), 1000), 1000);
        Check.answers("and is cleared again", x::clear, 1000);
    }

    private static void clearBlank() {
        Check.sentence("clear and a blank at the end, which is none");
        LineSetter x = with("ab ");
        Check.answers("clear", x::clear, 2);
        Check.answers("what follows has no blank ahead", () -> Check.run(x, "c", 1000), 1);
        Check.same("the text", whole(x), "c");
        x.clear();
        Check.answers("blanks ahead are none again", () -> Check.run(x, " c", 1000), 1);
        x.clear();
        Check.answers("a blank between is one again", () -> Check.run(x, "d  e ", 1000), 3);
        Check.same("the text", whole(x), "d e");
        Check.answers("and one at the end waits again", () -> Check.run(x, "f", 1000), 5);
    }

    private static void placeOfTheLatest() {
        Check.sentence("The PLACE of the latest font, hyphens or run, if that was BROKEN (or had a wrong byte), else -1");
        LineSetter x = new LineSetter();
        Check.answers("none yet", x::place, -1);
        String[] wrong = {"  ?", "ab cd ?", "abcd\t"};
        int[] places = {2, 6, 4};
        Twins.Ask[] calls = {LineSetter::font, LineSetter::hyphens, y -> y.run(1000)};
        for (int i = 0; i < 3; i++) {
            for (int k = 0; k < 3; k++) {
                int first = i;
                int second = k;
                Check.feed(x, wrong[i]);
                Check.refuses("wrong " + i, () -> calls[first].of(x), Check.UOE);
                Check.answers("its place", x::place, places[i]);
                Check.answers("its place, asked again", x::place, places[i]);
                Check.outcome(() -> calls[second].of(x));
                Check.answers("an empty one behind it", x::place, -1);
                Check.feed(x, wrong[i]);
                Check.outcome(() -> calls[first].of(x));
                Check.feed(x, wrong[k]);
                Check.outcome(() -> calls[second].of(x));
                Check.answers("a wrong one behind it", x::place, places[k]);
            }
        }
    }

    private static void placeOfOthers() {
        Check.sentence("The PLACE is not that of another call");
        LineSetter x = Twins.busy();
        Check.Call[] calls = {() -> x.feed(0, 0, 0, 0, 0), () -> x.end(3), () -> x.end(99), x::parts, x::parts, () -> x.width(1000), () -> x.width(0),
            x::judge, () -> x.set(2000, 0, 0, 1, 1), () -> x.set(0, 0, 0, 0, 0), () -> x.told(0), () -> x.told(9), () -> x.at(1, 0),
            () -> x.at(0, 0), () -> x.line(0, 0), () -> x.line(-1, 0), () -> x.spot(0, 0), () -> x.spot(0, -1), () -> x.text(0),
            () -> x.text(-1), () -> x.word(0), () -> x.word(-1), () -> x.count(0), () -> x.count(9), x::clear, () -> x.set(2000, 0, 0, 1, 1)};
        for (Check.Call call : calls) {
            Check.outcome(call);
            Check.answers("the place", x::place, Twins.PLACE);
        }
    }
}
