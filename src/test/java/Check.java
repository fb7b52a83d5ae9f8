import java.nio.charset.StandardCharsets;
import java.util.Objects;

/** What the tests share: a call whose answer or exception is compared, and texts for THE TAPE. */
final class Check {
    interface Call {
        long answer();
    }

    static final String IAE = "IllegalArgumentException";
    static final String ISE = "IllegalStateException";
    static final String IOOBE = "IndexOutOfBoundsException";
    static final String UOE = "UnsupportedOperationException";

    private static int wrong = 0;
    private static int checks = 0;
    private static String sentence = "";

    private Check() {
    }

    /** The document's words that the next checks are about: told with each wrong answer. */
    static void sentence(String words) {
        sentence = "\"" + words + "\": ";
    }

    static void same(String what, Object got, Object due) {
        checks++;
        if (!Objects.equals(got, due)) {
            wrong++;
            System.out.println(sentence + shown(what) + " answered " + shown(got) + ", due is " + shown(due));
        }
    }

    private static String shown(Object answer) {
        String text = String.valueOf(answer).replace('\n', '/');
        return text.length() > 400 ? text.substring(0, 400) + " .." : text;
    }

    static void answers(String what, Call call, long due) {
        same(what, outcome(call), Long.toString(due));
    }

    static void refuses(String what, Call call, String exception) {
        same(what, outcome(call), "throws." + exception);
    }

    /** The exact class counts: a subclass of a documented exception is what the machine throws. */
    static String outcome(Call call) {
        try {
            return Long.toString(call.answer());
        } catch (RuntimeException e) {
            return "throws." + e.getClass().getSimpleName();
        }
    }

    /** The last of 8192 bytes do not come in twenties: some are fed twice then. */
    static void feed(LineSetter x, byte[] bytes) {
        int before = x.count(0);
        for (int i = 0; i < bytes.length; i += 20) {
            if (before + i + 20 > 8192) {
                i = 8172 - before;
                x.end(8172);
            }
            int[] ints = new int[5];
            for (int k = 0; k < 20; k++) {
                int b = i + k < bytes.length ? bytes[i + k] & 255 : 0;
                ints[k / 4] = ints[k / 4] << 8 | b;
            }
            x.feed(ints[0], ints[1], ints[2], ints[3], ints[4]);
        }
        x.end(before + bytes.length);
    }

    static void feed(LineSetter x, String text) {
        feed(x, text.getBytes(StandardCharsets.ISO_8859_1));
    }

    static int run(LineSetter x, String text, int size) {
        feed(x, text);
        return x.run(size);
    }

    static String font(LineSetter x, String text) {
        feed(x, text);
        return outcome(x::font) + " " + x.place();
    }

    static String hyphens(LineSetter x, String text) {
        feed(x, text);
        return outcome(x::hyphens) + " " + x.place();
    }

    static long width(LineSetter x, String text, int size) {
        feed(x, text);
        return x.width(size);
    }

    static String parts(LineSetter x, String text) {
        feed(x, text);
        x.parts();
        return out(x);
    }

    static String text(LineSetter x, int j) {
        x.text(j);
        return out(x);
    }

    static long judge(LineSetter x, int... breaks) {
        byte[] bytes = new byte[2 * breaks.length];
        for (int i = 0; i < breaks.length; i++) {
            bytes[2 * i] = (byte) (breaks[i] >> 8);
            bytes[2 * i + 1] = (byte) breaks[i];
        }
        feed(x, bytes);
        return x.judge();
    }

    static String out(LineSetter x) {
        StringBuilder text = new StringBuilder();
        int length = x.count(1);
        for (int i = 0; i < length; i += 8) {
            long eight = x.word(i);
            for (int k = i; k < i + 8 && k < length; k++) {
                text.append((char) (eight >>> 8 * (7 - k + i) & 255));
            }
        }
        return text.toString();
    }

    /** Ends the test as .ci/run wants it. */
    static void done(String test) {
        System.out.println(test + ": " + checks + " checks, " + wrong + " wrong");
        if (wrong > 0) {
            System.exit(1);
        }
    }
}
