import java.nio.charset.StandardCharsets;
import java.util.Random;

/** Long runs of calls, ordinary and wrong ones, on LineSetter and on the model of the document: all answers are the same. */
public final class ModelTest {
    private static final String[] FONT_BITS = {"width", "kern", "join", "\"a\"", "\"b\"", "\"-\"", "\" \"", "\"f\"", "\"i\"",
        "-", ";", "0", "60", "500", "501", "5000", "5001", "1234567", "12345678", "\"ab\"", "\"\"", "\"", "\"a", "abcdefghijklm",
        "\n", " ", "widths", "\t", "\u00ff"};
    private static final String[] HYPHEN_BITS = {"ends", "22", "11", "13", "19", "05", "123", "a1b", "1na", "a1", ".a1b", "b1a.", "2b",
        "=ab-ba", "=a-b", "=abba", "=a--b", "=-a", "=a-", "=", ".", "..", "1.a", "a.1", "a.b", "a12b", "b3b", "b4a", "a0a1a",
        "abcdefghijkl", "abcdefghijklm", ".a1b1a.", "A1b", "a\tb", "\u00e4", "a9", "9b", "f1i", "i1f"};
    private static final int CALL_LIMIT = 512;
    private static final String LETTERS = "abfiABFI";

    private final Random random;
    private LineSetter x;
    private Model m;
    private String run;
    private int calls;

    private ModelTest(long seed) {
        random = new Random(seed);
    }

    public static void main(String[] args) {
        for (int seed = 1; seed <= 2500; seed++) {
            new ModelTest(seed).runOnce(seed);
        }
        Check.done("ModelTest");
    }

    private void runOnce(int seed) {
        x = new LineSetter();
        m = new Model();
        run = "seed " + seed + " ";
        calls = 0;
        while (calls < CALL_LIMIT) {
            step();
        }
    }

    private int any(int n) {
        return random.nextInt(n);
    }

    private int pick(int... of) {
        return of[any(of.length)];
    }

    /** What a call behind the last promised one answers is free, so it is left out. */
    private void both(String call, Check.Call real, Check.Call due) {
        calls++;
        if (calls > CALL_LIMIT) {
            return;
        }
        Check.same(run + call, Check.outcome(real), Check.outcome(due));
    }

    private void step() {
        switch (any(12)) {
            case 0:
                feedFont();
                both("font", x::font, m::font);
                break;
            case 1:
            case 2:
                feedHyphens();
                both("hyphens", x::hyphens, m::hyphens);
                break;
            case 3:
            case 4:
            case 5:
                feed(paragraphText());
                int size = pick(1000, 1000, 1000, 1001, 2000, 10007, 100000, 999, 100001);
                both("run", () -> x.run(size), () -> m.run(size));
                break;
            case 6:
            case 7:
            case 8:
            case 9:
                setOnce();
                break;
            case 10:
                parts();
                break;
            default:
                small();
        }
        both("place", x::place, m::place);
        counts();
    }

    private void counts() {
        int what = any(3);
        both("count " + what, () -> x.count(what), () -> m.count(what));
        int i = any((int) m.count(1) + 2) - 1;
        both("word " + i, () -> x.word(i), () -> m.word(i));
    }

    private void feed(String text) {
        byte[] bytes = text.getBytes(StandardCharsets.ISO_8859_1);
        int before = (int) m.count(0);
        for (int i = 0; i < bytes.length; i += 20) {
            int[] n = new int[5];
            for (int k = 0; k < 20; k++) {
                n[k / 4] = n[k / 4] << 8 | (i + k < bytes.length ? bytes[i + k] & 255 : 0);
            }
            both("feed", () -> x.feed(n[0], n[1], n[2], n[3], n[4]), () -> m.feed(n[0], n[1], n[2], n[3], n[4]));
        }
        int length = before + bytes.length;
        both("end", () -> x.end(length), () -> m.end(length));
    }

    private String bits(String[] of, int most, String between) {
        StringBuilder text = new StringBuilder();
        int n = any(most);
        for (int i = 0; i < n; i++) {
            text.append(of[any(of.length)]).append(between);
        }
        return text.toString();
    }

    private void feedFont() {
        StringBuilder text = new StringBuilder();
        int n = any(12);
        String bytes = "abfi- zq";
        for (int i = 0; i < n; i++) {
            String one = "\"" + bytes.charAt(any(8)) + "\"";
            String two = one + (any(2) == 0 ? " " : "") + "\"" + bytes.charAt(any(8)) + "\"";
            switch (any(3)) {
                case 0:
                    text.append("width ").append(one).append(pick(0, 1, 333, 500, 1000, 5000)).append(";");
                    break;
                case 1:
                    text.append("kern").append(two).append(any(2) == 0 ? "- " : " ").append(pick(0, 7, 60, 499, 500)).append(" ;\n");
                    break;
                default:
                    text.append(" join ").append(two).append(pick(0, 300, 777, 5000)).append(";");
            }
        }
        feed(any(3) == 0 ? text + bits(FONT_BITS, 6, any(2) == 0 ? "" : " ") : text.toString());
    }

    private void feedHyphens() {
        StringBuilder text = new StringBuilder();
        int n = any(30);
        for (int i = 0; i < n; i++) {
            text.append(any(6) == 0 ? exception() : pattern()).append(any(9) == 0 ? "\n " : " ");
        }
        if (any(2) == 0) {
            text.append("ends ").append(pick(11, 12, 21, 32)).append(" ");
        }
        feed(any(4) == 0 ? text + bits(HYPHEN_BITS, 5, any(9) == 0 ? "" : " ") : text.toString());
    }

    private String pattern() {
        StringBuilder text = new StringBuilder(any(5) == 0 ? "." : "");
        int n = 1 + any(3);
        for (int i = 0; i < n; i++) {
            text.append(any(2) == 0 ? "" : Integer.toString(any(6))).append(LETTERS.charAt(any(4)));
        }
        return text.append(any(2) == 0 ? "" : "1").append(any(5) == 0 ? "." : "").toString();
    }

    private String exception() {
        StringBuilder text = new StringBuilder("=");
        int n = 1 + any(5);
        for (int i = 0; i < n; i++) {
            text.append(i > 0 && any(2) == 0 ? "-" : "").append(LETTERS.charAt(any(4)));
        }
        return text.toString();
    }

    private String paragraphText() {
        StringBuilder text = new StringBuilder();
        int n = any(16);
        for (int i = 0; i < n; i++) {
            int kind = any(24);
            text.append(kind < 5 ? " " : kind == 5 ? "\n" : kind < 8 ? "-" : kind == 8 ? "." : Character.toString(LETTERS.charAt(any(8))));
        }
        if (any(30) == 0) {
            text.append((char) pick(0, 9, 127, 128, 255, 31));
        }
        return text.toString();
    }

    private void setOnce() {
        int width = pick(1000, 1500, 2000, 3000, 4000, 5000, 8000, 30000, 1000000, 1000 + any(9000), 999);
        int indent = pick(0, 0, 500, 1000, 500000, any(3000), -1, 500001);
        int align = pick(0, 0, 0, 0, 1, 2, 3, any(5), -1 + any(6));
        int hyphens = pick(0, 1, 1, 1, 1, 2 - any(4));
        int tolerance = pick(1, 100, 200, 1000, 10000, 1 + any(10000), 0, 10001);
        both("set", () -> x.set(width, indent, align, hyphens, tolerance), () -> m.set(width, indent, align, hyphens, tolerance));
        both("cost", () -> x.told(0), () -> m.told(0));
        both("taken", () -> x.told(1), () -> m.told(1));
        ask();
        judge();
    }

    private int orOne(Check.Call call) {
        String outcome = Check.outcome(call);
        return outcome.startsWith("throws") ? 1 : Integer.parseInt(outcome);
    }

    private void ask() {
        int what = any(8) - 1;
        both("told " + what, () -> x.told(what), () -> m.told(what));
        for (int i = 0; i < 6; i++) {
            int b = any(orOne(() -> m.told(2)) + 2);
            int n = any(6) - (any(9) == 0 ? 1 : 0);
            both("at " + b + " " + n, () -> x.at(b, n), () -> m.at(b, n));
        }
        for (int i = 0; i < 3; i++) {
            askLine(any(orOne(() -> m.told(3)) + (any(5) == 0 ? 2 : 0)) - (any(9) == 0 ? 1 : 0));
        }
    }

    private void askLine(int j) {
        for (int i = 0; i < 4; i++) {
            int what = any(9) - (any(9) == 0 ? 1 : 0);
            int w = any(4) - (any(9) == 0 ? 1 : 0);
            both("line " + j + " " + what, () -> x.line(j, what), () -> m.line(j, what));
            both("spot " + j + " " + w, () -> x.spot(j, w), () -> m.spot(j, w));
        }
        both("text " + j, () -> x.text(j), () -> m.text(j));
        both("word", () -> x.word(0), () -> m.word(0));
    }

    private void judge() {
        StringBuilder text = new StringBuilder();
        int breaks = Check.outcome(() -> m.told(2)).startsWith("t") ? 3 : (int) m.told(2);
        for (int b = any(3) == 0 ? any(3) : 1; b < breaks + (any(20) == 0 ? 1 : 0); b++) {
            if (any(2) == 0) {
                text.append((char) (b >> 8)).append((char) b);
            }
        }
        if (any(15) == 0) {
            text.append((char) any(2));
        }
        feed(text.toString());
        both("judge", x::judge, m::judge);
    }

    private void parts() {
        StringBuilder text = new StringBuilder();
        int n = pick(0, 1, 2, 3, 5, 8, 12, 60, 61);
        for (int i = 0; i < n; i++) {
            text.append(LETTERS.charAt(any(8)));
        }
        if (any(9) == 0) {
            text.append((char) pick('-', '.', 'z', 0, 200));
        }
        feed(text.toString());
        both("parts", x::parts, m::parts);
    }

    private void small() {
        int size = pick(999, 1000, 1001, 33333, 100000, 100001);
        switch (any(4)) {
            case 0:
                if (any(3) == 0) {
                    both("clear", x::clear, m::clear);
                }
                break;
            case 1:
                feed(paragraphText().replace('\n', any(9) == 0 ? '\n' : 'a') + (any(3) == 0 ? "\"~" : ""));
                both("width", () -> x.width(size), () -> m.width(size));
                break;
            case 2:
                feed(paragraphText());
                int n = any(20) - 2;
                both("end " + n, () -> x.end(n), () -> m.end(n));
                both("run", () -> x.run(size), () -> m.run(size));
                break;
            default:
                int what = any(6) - 2;
                both("count", () -> x.count(what), () -> m.count(what));
        }
    }
}
