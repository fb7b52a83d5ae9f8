import java.util.ArrayList;
import java.util.Arrays;
import java.util.List;
import java.util.Map;
import java.util.TreeMap;
import java.util.TreeSet;
import java.util.regex.Matcher;
import java.util.regex.Pattern;

/**
 * The document once more, written to be read beside it and not to be fast: texts and maps where
 * LineSetter has rows, all rows of BREAKS where it keeps the best. Nothing is shared with LineSetter.
 */
final class Model {
    private static final Pattern FONT_SIGN = Pattern.compile("[a-z][a-z0-9]*|[0-9]+|\"[ !#-~]*\"|[\\x00-\\xff]", Pattern.DOTALL);

    private String tape = "";
    private String out = "";
    private int place = -1;

    private Map<Character, Integer> widths = new TreeMap<>();
    private Map<String, Integer> kerns = new TreeMap<>();
    private Map<String, Integer> joins = new TreeMap<>();

    private Map<String, int[]> patterns = new TreeMap<>();
    private Map<String, TreeSet<Integer>> exceptions = new TreeMap<>();
    private int ahead = 2;
    private int behind = 3;

    private String paragraph = "";
    private List<Integer> sizes = new ArrayList<>();

    private SetText what;

    private static final class Broken extends Exception {
        final int at;

        Broken(int at) {
            this.at = at;
        }
    }

    /** What was SET. */
    private static final class SetText {
        String text;
        int width;
        int indent;
        int align;
        long told;
        List<Integer> kinds = new ArrayList<>(List.of(-1));
        List<Integer> aheads = new ArrayList<>(List.of(0));
        /** The PART ahead of each BREAK, the - of a HYPHEN, the GLUE of a GLUE. */
        List<Long> partWidths = new ArrayList<>(List.of(0L));
        List<Long> hyphenWidths = new ArrayList<>(List.of(0L));
        List<Long> glues = new ArrayList<>(List.of(0L));
        List<Integer> row;

        int last() {
            return kinds.size() - 1;
        }
    }

    private static final class Stretch {
        long n;
        long a;
        long z;
        long l;
        long ratio;
        long badness;
        int grade;
        boolean tooLong;
        int words = 1;
    }

    private String takeTape() {
        String text = tape;
        tape = "";
        return text;
    }

    private static void range(long n, long least, long greatest) {
        if (n < least || n > greatest) {
            throw new IllegalArgumentException();
        }
    }

    private void needSet() {
        if (what == null) {
            throw new IllegalStateException();
        }
    }

    long feed(int a, int b, int c, int d, int e) {
        if (tape.length() + 20 > 8192) {
            throw new IndexOutOfBoundsException();
        }
        StringBuilder text = new StringBuilder(tape);
        for (int n : new int[] {a, b, c, d, e}) {
            for (int shift = 24; shift >= 0; shift -= 8) {
                text.append((char) (n >> shift & 255));
            }
        }
        tape = text.toString();
        return tape.length();
    }

    long end(int n) {
        range(n, 0, tape.length());
        tape = tape.substring(0, n);
        return n;
    }

    // ---- FONT

    private static List<int[]> signs(String text) {
        List<int[]> found = new ArrayList<>();
        Matcher m = FONT_SIGN.matcher(text);
        while (m.find()) {
            String sign = m.group();
            if (!sign.equals(" ") && !sign.equals("\n")) {
                found.add(new int[] {m.start(), m.end()});
            }
        }
        return found;
    }

    private final class FontText {
        final String text;
        final List<int[]> signs;
        int next = 0;
        final Map<Character, Integer> w = new TreeMap<>();
        final Map<String, Integer> k = new TreeMap<>();
        final Map<String, Integer> j = new TreeMap<>();

        FontText(String text) {
            this.text = text;
            this.signs = signs(text);
        }

        int at() {
            return next < signs.size() ? signs.get(next)[0] : text.length();
        }

        String look() {
            return next < signs.size() ? text.substring(signs.get(next)[0], signs.get(next)[1]) : "";
        }

        String take(String form) throws Broken {
            String sign = look();
            if (!sign.matches(form)) {
                throw new Broken(at());
            }
            next++;
            return sign;
        }

        char takeByte() throws Broken {
            return take("\"[ !#-~]\"").charAt(1);
        }

        int takeNumber(int greatest) throws Broken {
            int where = at();
            String sign = take("[0-9]{1,7}");
            if (Integer.parseInt(sign) > greatest) {
                throw new Broken(where);
            }
            return Integer.parseInt(sign);
        }

        void pair(Map<String, Integer> map, int limit, boolean signed, int greatest) throws Broken {
            String key = Character.toString(takeByte());
            int second = at();
            key += takeByte();
            if (!map.containsKey(key) && map.size() == limit) {
                throw new Broken(second);
            }
            int factor = 1;
            if (signed && look().equals("-")) {
                take("-");
                factor = -1;
            }
            int number = takeNumber(greatest) * factor;
            take(";");
            map.put(key, number);
        }

        void read() throws Broken {
            while (next < signs.size()) {
                String name = take("width|kern|join");
                if (name.equals("width")) {
                    char b = takeByte();
                    int number = takeNumber(5000);
                    take(";");
                    w.put(b, number);
                } else if (name.equals("kern")) {
                    pair(k, 200, true, 500);
                } else {
                    pair(j, 60, false, 5000);
                }
            }
        }
    }

    long font() {
        FontText read = new FontText(takeTape());
        place = -1;
        try {
            read.read();
        } catch (Broken e) {
            place = e.at;
            throw new UnsupportedOperationException();
        }
        widths = read.w;
        kerns = read.k;
        joins = read.j;
        return widths.size() + kerns.size() + joins.size();
    }

    // ---- HYPHENS

    private final class HyphenText {
        final Map<String, int[]> p = new TreeMap<>();
        final Map<String, TreeSet<Integer>> x = new TreeMap<>();
        int a = 2;
        int b = 3;

        void read(String text) throws Broken {
            Matcher m = Pattern.compile("[^ \\n]+").matcher(text);
            boolean digitsDue = false;
            while (m.find()) {
                String w = m.group();
                if (digitsDue) {
                    ends(w, m.start());
                    digitsDue = false;
                } else if (w.equals("ends")) {
                    digitsDue = true;
                } else if (w.startsWith("=")) {
                    exception(w.substring(1), m.start());
                } else {
                    pattern(w, m.start());
                }
            }
            if (digitsDue) {
                throw new Broken(text.length());
            }
        }

        void ends(String w, int at) throws Broken {
            if (!w.matches("[1-9][1-9]")) {
                throw new Broken(at);
            }
            a = w.charAt(0) - '0';
            b = w.charAt(1) - '0';
        }

        void exception(String w, int at) throws Broken {
            String letters = w.replace("-", "");
            if (!w.matches("[a-z]+(-[a-z]+)*") || letters.length() > 30 || !x.containsKey(letters) && x.size() == 60) {
                throw new Broken(at);
            }
            TreeSet<Integer> places = new TreeSet<>();
            int count = 0;
            for (char c : w.toCharArray()) {
                if (c == '-') {
                    places.add(count);
                } else {
                    count++;
                }
            }
            x.put(letters, places);
        }

        void pattern(String w, int at) throws Broken {
            String key = w.replaceAll("[0-9]", "");
            String letters = key.replace(".", "");
            boolean form = w.matches("\\.?[0-9]?([a-z][0-9]?)+\\.?");
            if (!form || letters.length() > 12 || !p.containsKey(key) && p.size() == 300) {
                throw new Broken(at);
            }
            int[] digits = new int[key.length() + 1];
            int k = 0;
            for (char c : w.toCharArray()) {
                if (Character.isDigit(c)) {
                    digits[k] = c - '0';
                } else {
                    k++;
                }
            }
            p.put(key, digits);
        }
    }

    long hyphens() {
        HyphenText read = new HyphenText();
        String text = takeTape();
        place = -1;
        try {
            read.read(text);
        } catch (Broken e) {
            place = e.at;
            throw new UnsupportedOperationException();
        }
        patterns = read.p;
        exceptions = read.x;
        ahead = read.a;
        behind = read.b;
        return patterns.size() + exceptions.size();
    }

    private TreeSet<Integer> places(String letters) {
        String row = letters.toLowerCase();
        TreeSet<Integer> found = new TreeSet<>();
        if (exceptions.containsKey(row)) {
            found.addAll(exceptions.get(row));
        } else {
            String dotted = "." + row + ".";
            int[] best = new int[dotted.length() + 1];
            for (Map.Entry<String, int[]> e : patterns.entrySet()) {
                for (int i = dotted.indexOf(e.getKey()); i >= 0; i = dotted.indexOf(e.getKey(), i + 1)) {
                    for (int k = 0; k < e.getValue().length; k++) {
                        best[i + k] = Math.max(best[i + k], e.getValue()[k]);
                    }
                }
            }
            for (int i = 1; i <= row.length() + 1; i++) {
                if (best[i] % 2 == 1) {
                    found.add(i - 1);
                }
            }
        }
        found.removeIf(p -> p < ahead || row.length() - p < behind);
        return found;
    }

    long place() {
        return place;
    }

    // ---- THE PARAGRAPH: its trailing blank is kept here and left out of every count

    private static int stripped(String text) {
        return text.endsWith(" ") ? text.length() - 1 : text.length();
    }

    long run(int size) {
        String text = takeTape();
        place = -1;
        range(size, 1000, 100000);
        Matcher wrong = Pattern.compile("[^\\n -~]").matcher(text);
        if (wrong.find()) {
            place = wrong.start();
            throw new UnsupportedOperationException();
        }
        StringBuilder all = new StringBuilder(paragraph);
        List<Integer> allSizes = new ArrayList<>(sizes);
        for (char c : text.replace('\n', ' ').toCharArray()) {
            boolean dropped = c == ' ' && (all.length() == 0 || all.charAt(all.length() - 1) == ' ');
            if (!dropped) {
                all.append(c);
                allSizes.add(size);
            }
        }
        if (stripped(all.toString()) > 4000) {
            throw new IndexOutOfBoundsException();
        }
        paragraph = all.toString();
        sizes = allSizes;
        return stripped(paragraph);
    }

    long clear() {
        int had = stripped(paragraph);
        paragraph = "";
        sizes = new ArrayList<>();
        return had;
    }

    private static long scale(long size, long n) {
        return n < 0 ? -(size * -n / 1000) : size * n / 1000;
    }

    private long byteWidth(char b, long size) {
        return scale(size, widths.getOrDefault(b, 500));
    }

    private long partWidth(String part, List<Integer> partSizes) {
        List<String> signs = new ArrayList<>();
        List<Integer> signSizes = new ArrayList<>();
        for (int i = 0; i < part.length(); ) {
            boolean joined = i + 1 < part.length() && partSizes.get(i).equals(partSizes.get(i + 1))
                    && joins.containsKey(part.substring(i, i + 2));
            signs.add(part.substring(i, i + (joined ? 2 : 1)));
            signSizes.add(partSizes.get(i));
            i += joined ? 2 : 1;
        }
        long sum = 0;
        for (int i = 0; i < signs.size(); i++) {
            String sign = signs.get(i);
            int size = signSizes.get(i);
            sum += sign.length() == 2 ? scale(size, joins.get(sign)) : byteWidth(sign.charAt(0), size);
            if (i > 0 && signSizes.get(i - 1) == size) {
                String left = signs.get(i - 1);
                String pair = left.substring(left.length() - 1) + sign.charAt(0);
                sum += scale(size, kerns.getOrDefault(pair, 0));
            }
        }
        return sum < 0 ? 0 : sum;
    }

    // ---- SET

    private SetText breaks(boolean withHyphens) {
        SetText s = new SetText();
        s.text = paragraph.substring(0, stripped(paragraph));
        TreeMap<Integer, Integer> kindAt = new TreeMap<>();
        Matcher words = Pattern.compile("[^ ]+").matcher(s.text);
        while (words.find()) {
            for (int i = words.start(); i < words.end() - 1; i++) {
                if (s.text.charAt(i) == '-') {
                    kindAt.put(i + 1, 2);
                }
            }
            Matcher rows = Pattern.compile("[A-Za-z]+").matcher(words.group());
            while (withHyphens && rows.find()) {
                for (int p : places(rows.group())) {
                    kindAt.put(words.start() + rows.start() + p, 1);
                }
            }
            kindAt.put(words.end(), words.end() == s.text.length() ? 3 : 0);
        }
        int from = 0;
        for (Map.Entry<Integer, Integer> e : kindAt.entrySet()) {
            int to = e.getKey();
            int kind = e.getValue();
            s.kinds.add(kind);
            s.aheads.add(to);
            s.partWidths.add(partWidth(s.text.substring(from, to), sizes.subList(from, to)));
            s.hyphenWidths.add(kind == 1 ? byteWidth('-', sizes.get(to - 1)) : 0);
            s.glues.add(kind == 0 ? byteWidth(' ', sizes.get(to)) : 0);
            from = kind == 0 ? to + 1 : to;
        }
        return s;
    }

    private static Stretch line(SetText s, int from, int to) {
        Stretch r = new Stretch();
        for (int b = from + 1; b <= to; b++) {
            r.n += s.partWidths.get(b);
            if (b < to && s.kinds.get(b) == 0) {
                r.n += s.glues.get(b);
                r.a += s.glues.get(b) / 2;
                r.z += s.glues.get(b) / 3;
                r.words++;
            }
        }
        r.n += s.hyphenWidths.get(to);
        r.l = from == 0 ? Math.max(1000, s.width - s.indent) : s.width;
        if (s.align != 0) {
            r.a = r.l;
            r.z = 0;
        }
        if (r.n < r.l) {
            r.ratio = to == s.last() ? 0 : r.a == 0 ? 100000 : Math.min(100000, (r.l - r.n) * 1000 / r.a);
        } else if (r.n > r.l) {
            r.tooLong = r.n - r.l > r.z;
            r.ratio = r.tooLong ? -1000 : -Math.floorDiv((r.n - r.l) * 1000 + r.z - 1, r.z);
        }
        long size = Math.abs(r.ratio);
        r.badness = r.tooLong ? 10000 : Math.min(10000, 100 * size * size * size / 1000000000L);
        r.grade = r.ratio < -500 ? 0 : r.ratio <= 500 ? 1 : r.ratio <= 1000 ? 2 : 3;
        return r;
    }

    private static boolean parted(SetText s, int b) {
        return s.kinds.get(b) == 1 || s.kinds.get(b) == 2;
    }

    private static long cost(SetText s, int from, int to, int gradeBefore) {
        Stretch r = line(s, from, to);
        long c = (10 + r.badness) * (10 + r.badness);
        c += s.kinds.get(to) == 1 ? 2500 : 0;
        c += s.kinds.get(to) == 2 ? 900 : 0;
        c += parted(s, to) && parted(s, from) ? 3000 : 0;
        c += Math.abs(r.grade - gradeBefore) > 1 ? 10000 : 0;
        c += to == s.last() && parted(s, from) ? 5000 : 0;
        c += r.tooLong ? 1000000000L + r.n - r.z - r.l : 0;
        return c;
    }

    /** The costs of the lines to the BREAKS of the row, its last one the END; null if it is not allowed. */
    private static List<Long> costs(SetText s, List<Integer> row, long told) {
        List<Long> found = new ArrayList<>();
        int from = 0;
        int grade = 1;
        for (int to : row) {
            Stretch r = line(s, from, to);
            if (r.badness > told || r.tooLong && told != 10001) {
                return null;
            }
            found.add(cost(s, from, to, grade));
            grade = r.grade;
            from = to;
        }
        return found;
    }

    private static long sum(List<Long> numbers) {
        return numbers.stream().mapToLong(n -> n).sum();
    }

    /** Below 0 if the first row is taken ahead of the second one, both costing the same. */
    private static int compareFromBehind(List<Integer> a, List<Integer> b) {
        int i = a.size() - 1;
        int k = b.size() - 1;
        while (i >= 0 && k >= 0) {
            if (!a.get(i).equals(b.get(k))) {
                return Integer.compare(a.get(i), b.get(k));
            }
            i--;
            k--;
        }
        return Integer.compare(i, k);
    }

    private static List<Integer> bestOfAll(SetText s, long told) {
        List<Integer> best = null;
        long least = 0;
        int n = s.last() - 1;
        for (int bits = 0; bits < 1 << n; bits++) {
            List<Integer> row = new ArrayList<>();
            for (int b = 1; b <= n; b++) {
                if ((bits >> (b - 1) & 1) == 1) {
                    row.add(b);
                }
            }
            row.add(n + 1);
            List<Long> costs = costs(s, row, told);
            if (costs == null) {
                continue;
            }
            long c = sum(costs);
            if (best == null || c < least || c == least && compareFromBehind(row, best) < 0) {
                best = row;
                least = c;
            }
        }
        return best;
    }

    /** For more BREAKS than all rows can be tried of: whole rows are kept for each BREAK and CLASS. */
    private static List<Integer> bestByBreaks(SetText s, long told) {
        List<Map<Integer, List<Integer>>> rows = new ArrayList<>();
        rows.add(new TreeMap<>(Map.of(1, List.of())));
        for (int to = 1; to <= s.last(); to++) {
            Map<Integer, List<Integer>> here = new TreeMap<>();
            for (int from = 0; from < to; from++) {
                Stretch r = line(s, from, to);
                if (r.badness > told || r.tooLong && told != 10001) {
                    continue;
                }
                for (List<Integer> before : rows.get(from).values()) {
                    List<Integer> row = new ArrayList<>(before);
                    row.add(to);
                    List<Integer> rival = here.get(r.grade);
                    if (rival == null || isTaken(s, row, rival)) {
                        here.put(r.grade, row);
                    }
                }
            }
            rows.add(here);
        }
        List<Integer> best = null;
        for (List<Integer> row : rows.get(s.last()).values()) {
            if (best == null || isTaken(s, row, best)) {
                best = row;
            }
        }
        return best;
    }

    private static boolean isTaken(SetText s, List<Integer> row, List<Integer> rival) {
        long a = sum(costs(s, row, 10001));
        long b = sum(costs(s, rival, 10001));
        return a < b || a == b && compareFromBehind(row, rival) < 0;
    }

    long set(int width, int indent, int align, int hyphens, int tolerance) {
        range(width, 1000, 1000000);
        range(indent, 0, 500000);
        range(align, 0, 3);
        range(hyphens, 0, 1);
        range(tolerance, 1, 10000);
        if (paragraph.isEmpty()) {
            throw new IllegalStateException();
        }
        SetText s = breaks(hyphens == 1);
        if (s.last() > 600) {
            throw new IndexOutOfBoundsException();
        }
        s.width = width;
        s.indent = indent;
        s.align = align;
        for (long told : new long[] {tolerance, 10000, 10001}) {
            if (s.row == null) {
                s.told = told;
                s.row = s.last() <= 11 ? bestOfAll(s, told) : bestByBreaks(s, told);
            }
        }
        what = s;
        return s.row.size();
    }

    long told(int n) {
        range(n, 0, 5);
        needSet();
        long widest = 0;
        for (int b = 1; b <= what.last(); b++) {
            widest = Math.max(widest, what.partWidths.get(b) + what.hyphenWidths.get(b));
        }
        long[] answers = {sum(costs(what, what.row, 10001)), what.told, what.last(), what.row.size(), widest,
            sum(what.partWidths) + sum(what.glues)};
        return answers[n];
    }

    long at(int b, int n) {
        range(n, 0, 3);
        range(b, 1, what == null ? Integer.MAX_VALUE : what.last());
        needSet();
        long[] answers = {what.kinds.get(b), what.aheads.get(b), sum(what.partWidths.subList(0, b + 1)),
            sum(what.glues.subList(0, b + 1))};
        return answers[n];
    }

    private int fromOf(int j) {
        range(j, 0, what == null ? Integer.MAX_VALUE : what.row.size() - 1);
        needSet();
        return j == 0 ? 0 : what.row.get(j - 1);
    }

    private long beginning(int j) {
        Stretch r = line(what, fromOf(j), what.row.get(j));
        long left = j == 0 ? what.indent : 0;
        if (r.n < r.l && what.align == 2) {
            left += r.l - r.n;
        }
        if (r.n < r.l && what.align == 3) {
            left += (r.l - r.n) / 2;
        }
        return left;
    }

    long line(int j, int n) {
        range(n, 0, 7);
        int from = fromOf(j);
        int to = what.row.get(j);
        Stretch r = line(what, from, to);
        long[] answers = {from, to, r.ratio, r.n, beginning(j), costs(what, what.row, 10001).get(j), r.words, r.badness};
        return answers[n];
    }

    long spot(int j, int w) {
        int from = fromOf(j);
        int to = what.row.get(j);
        Stretch r = line(what, from, to);
        if (w < 0 || w >= r.words) {
            throw new IndexOutOfBoundsException();
        }
        long x = beginning(j);
        long a = 0;
        long z = 0;
        for (int b = from + 1; w > 0; b++) {
            x += what.partWidths.get(b) + what.glues.get(b);
            a += what.glues.get(b) / 2;
            z += what.glues.get(b) / 3;
            w -= what.kinds.get(b) == 0 ? 1 : 0;
        }
        if (what.align == 0 && r.n > r.l) {
            x -= r.tooLong ? z : (r.n - r.l) * z / r.z;
        } else if (what.align == 0 && to != what.last() && r.a > 0) {
            x += (r.l - r.n) * a / r.a;
        }
        return x;
    }

    long text(int j) {
        int from = fromOf(j);
        int to = what.row.get(j);
        int start = what.aheads.get(from) + (what.kinds.get(from) == 0 ? 1 : 0);
        out = what.text.substring(start, what.aheads.get(to)) + (what.kinds.get(to) == 1 ? "-" : "");
        return out.length();
    }

    long judge() {
        String text = takeTape();
        needSet();
        if (text.length() % 2 == 1) {
            throw new IllegalArgumentException();
        }
        List<Integer> row = new ArrayList<>();
        int before = 0;
        for (int i = 0; i < text.length(); i += 2) {
            int b = text.charAt(i) * 256 + text.charAt(i + 1);
            range(b, before + 1, what.last() - 1);
            row.add(b);
            before = b;
        }
        row.add(what.last());
        List<Long> costs = costs(what, row, what.told);
        return costs == null ? -1 : sum(costs);
    }

    long parts() {
        String text = takeTape();
        if (!text.matches("[A-Za-z]{1,60}")) {
            throw new IllegalArgumentException();
        }
        TreeSet<Integer> places = places(text);
        StringBuilder parted = new StringBuilder();
        for (int i = 0; i < text.length(); i++) {
            parted.append(places.contains(i) ? "-" : "").append(text.charAt(i));
        }
        out = parted.toString();
        return out.length();
    }

    long width(int size) {
        String text = takeTape();
        range(size, 1000, 100000);
        if (!text.matches("[ -~]*")) {
            throw new IllegalArgumentException();
        }
        Integer[] all = new Integer[text.length()];
        Arrays.fill(all, size);
        return partWidth(text, Arrays.asList(all));
    }

    long word(int i) {
        if (i < 0 || i >= out.length()) {
            throw new IndexOutOfBoundsException();
        }
        long answer = 0;
        for (int k = i; k < i + 8; k++) {
            answer = answer * 256 + (k < out.length() ? out.charAt(k) : 0);
        }
        return answer;
    }

    long count(int n) {
        range(n, 0, 2);
        return new long[] {tape.length(), out.length(), stripped(paragraph)}[n];
    }
}
