import java.util.Arrays;

/**
 * A setter of lines. Every row that a call needs is made once, with the object, and used again:
 * no call makes anything, so 512 calls need no more room than one.
 */
public final class LineSetter {
    private static final int TAPE_LIMIT = 8192;
    private static final int OUT_LIMIT = 6000;
    private static final int TEXT_LIMIT = 4000;
    private static final int BREAK_LIMIT = 600;
    private static final int PARTS_LIMIT = 60;

    private static final int LEAST_SIZE = 1000;
    private static final int GREATEST_SIZE = 100000;
    private static final int LEAST_WIDTH = 1000;
    private static final int GREATEST_WIDTH = 1000000;
    private static final int GREATEST_INDENT = 500000;

    private static final int NEW_LINE = 10;
    private static final int BLANK = 32;
    private static final int QUOTE = 34;
    private static final int MINUS = 45;
    private static final int DOT = 46;
    private static final int SEMICOLON = 59;
    private static final int EQUALS_SIGN = 61;
    private static final int LAST_BYTE = 126;
    /** Rows that are indexed by a byte of 0 .. 126 have this length. */
    private static final int BYTE_KINDS = 128;

    private static final int GLUE = 0;
    private static final int HYPHEN = 1;
    private static final int DASH = 2;
    private static final int END = 3;
    private static final int NO_BREAK = -1;

    private static final int JUST = 0;
    private static final int RIGHT = 2;
    private static final int MIDDLE = 3;

    private static final int WORST_BADNESS = 10000;
    private static final int LONG_LINES_TAKEN = 10001;
    /** The number of CLASSES of lines, and the one that counts ahead of the first line. */
    private static final int GRADES = 4;
    private static final int FIRST_GRADE = 1;

    private final Bytes tape;
    private final Bytes out;
    private final int[] tapeSizes;
    private final int[] tapeMarks;
    private final Paragraph paragraph;
    private final FontReader fontReader;
    private final HyphenReader hyphenReader;
    private final Chooser chooser;
    private final Line asked;
    private Font fontNow;
    private Font fontSpare;
    private HyphenTable tableNow;
    private HyphenTable tableSpare;
    private Setting settingNow;
    private Setting settingSpare;
    private boolean isSet;
    private int brokenAt;

    public LineSetter() {
        tape = new Bytes(TAPE_LIMIT);
        out = new Bytes(OUT_LIMIT);
        tapeSizes = new int[TAPE_LIMIT];
        tapeMarks = new int[PARTS_LIMIT + 1];
        paragraph = new Paragraph();
        fontReader = new FontReader(tape);
        hyphenReader = new HyphenReader(tape);
        chooser = new Chooser();
        asked = new Line();
        fontNow = new Font();
        fontSpare = new Font();
        tableNow = new HyphenTable();
        tableSpare = new HyphenTable();
        settingNow = new Setting();
        settingSpare = new Setting();
        isSet = false;
        brokenAt = -1;
    }

    public int feed(int a, int b, int c, int d, int e) throws IndexOutOfBoundsException {
        if (tape.length + 20 > TAPE_LIMIT) {
            throw new IndexOutOfBoundsException("the tape is full");
        }
        tape.addInt(a);
        tape.addInt(b);
        tape.addInt(c);
        tape.addInt(d);
        tape.addInt(e);
        return tape.length;
    }

    public int end(int n) throws IllegalArgumentException {
        if (n < 0 || n > tape.length) {
            throw new IllegalArgumentException("the tape has not as many bytes");
        }
        tape.length = n;
        return n;
    }

    public int font() throws UnsupportedOperationException {
        brokenAt = fontReader.readInto(fontSpare);
        tape.length = 0;
        if (brokenAt >= 0) {
            throw new UnsupportedOperationException("the font is broken");
        }
        Font before = fontNow;
        fontNow = fontSpare;
        fontSpare = before;
        return fontNow.entries();
    }

    public int hyphens() throws UnsupportedOperationException {
        brokenAt = hyphenReader.readInto(tableSpare);
        tape.length = 0;
        if (brokenAt >= 0) {
            throw new UnsupportedOperationException("the hyphens are broken");
        }
        HyphenTable before = tableNow;
        tableNow = tableSpare;
        tableSpare = before;
        return tableNow.entries();
    }

    public int place() {
        return brokenAt;
    }

    public int run(int size) throws IllegalArgumentException, UnsupportedOperationException, IndexOutOfBoundsException {
        int length = tape.length;
        tape.length = 0;
        brokenAt = -1;
        refuseSize(size);
        brokenAt = Paragraph.wrongByte(tape.cells, length);
        if (brokenAt >= 0) {
            throw new UnsupportedOperationException("a byte that no paragraph has");
        }
        if (paragraph.lengthWith(tape.cells, length) > TEXT_LIMIT) {
            throw new IndexOutOfBoundsException("the paragraph is full");
        }
        paragraph.append(tape.cells, length, size);
        return paragraph.length;
    }

    public int clear() {
        return paragraph.empty();
    }

    public int set(int width, int indent, int align, int hyphens, int tolerance)
            throws IllegalArgumentException, IllegalStateException, IndexOutOfBoundsException {
        refuseOutside(width, LEAST_WIDTH, GREATEST_WIDTH);
        refuseOutside(indent, 0, GREATEST_INDENT);
        refuseOutside(align, JUST, MIDDLE);
        refuseOutside(hyphens, 0, 1);
        refuseOutside(tolerance, 1, WORST_BADNESS);
        if (paragraph.length == 0) {
            throw new IllegalStateException("there is no paragraph");
        }
        Breaks breaks = settingSpare.breaks;
        breaks.mark(paragraph, hyphens == 1 ? tableNow : null);
        if (breaks.marked() > BREAK_LIMIT) {
            throw new IndexOutOfBoundsException("too many breaks");
        }
        breaks.fill(paragraph.sizes, fontNow);
        settingSpare.shape(width, indent, align);
        chooser.choose(settingSpare, tolerance);
        Setting before = settingNow;
        settingNow = settingSpare;
        settingSpare = before;
        isSet = true;
        return settingNow.lineCount;
    }

    public long told(int what) throws IllegalArgumentException, IllegalStateException {
        refuseOutside(what, 0, 5);
        refuseNothingSet();
        Breaks breaks = settingNow.breaks;
        switch (what) {
            case 0:
                return settingNow.totalCost;
            case 1:
                return settingNow.taken;
            case 2:
                return breaks.last;
            case 3:
                return settingNow.lineCount;
            case 4:
                return breaks.widest;
            default:
                return breaks.partSums[breaks.last] + breaks.glueSums[breaks.last];
        }
    }

    public long at(int b, int what) throws IllegalArgumentException, IllegalStateException {
        refuseOutside(what, 0, 3);
        refuseOutside(b, 1, isSet ? settingNow.breaks.last : b);
        refuseNothingSet();
        Breaks breaks = settingNow.breaks;
        switch (what) {
            case 0:
                return breaks.kinds[b];
            case 1:
                return breaks.aheads[b];
            case 2:
                return breaks.partSums[b];
            default:
                return breaks.glueSums[b];
        }
    }

    public long line(int j, int what) throws IllegalArgumentException, IllegalStateException {
        refuseOutside(what, 0, 7);
        askLine(j);
        switch (what) {
            case 0:
                return asked.from;
            case 1:
                return asked.to;
            case 2:
                return asked.ratio;
            case 3:
                return asked.natural;
            case 4:
                return settingNow.beginning(asked);
            case 5:
                return settingNow.lineCosts[j];
            case 6:
                return settingNow.breaks.wordsBetween(asked.from, asked.to);
            default:
                return asked.badness;
        }
    }

    public long spot(int j, int w) throws IllegalArgumentException, IllegalStateException, IndexOutOfBoundsException {
        askLine(j);
        if (w < 0 || w >= settingNow.breaks.wordsBetween(asked.from, asked.to)) {
            throw new IndexOutOfBoundsException("the line has no such word");
        }
        return settingNow.wordBeginning(asked, w);
    }

    public int text(int j) throws IllegalArgumentException, IllegalStateException {
        askLine(j);
        Breaks breaks = settingNow.breaks;
        int stop = breaks.aheads[asked.to];
        out.length = 0;
        for (int i = breaks.textFrom(asked.from); i < stop; i++) {
            out.add(breaks.text[i]);
        }
        if (breaks.kinds[asked.to] == HYPHEN) {
            out.add(MINUS);
        }
        return out.length;
    }

    public long judge() throws IllegalStateException, IllegalArgumentException {
        int length = tape.length;
        tape.length = 0;
        refuseNothingSet();
        if (!settingNow.areBreaks(tape.cells, length)) {
            throw new IllegalArgumentException("no rising row of breaks");
        }
        return settingNow.costOfRow(tape.cells, length, asked);
    }

    public int parts() throws IllegalArgumentException {
        int length = tape.length;
        tape.length = 0;
        if (length < 1 || length > PARTS_LIMIT || !areLetters(tape.cells, length)) {
            throw new IllegalArgumentException("no row of letters");
        }
        Arrays.fill(tapeMarks, NO_BREAK);
        tableNow.markPlaces(tape.cells, 0, length, tapeMarks);
        out.length = 0;
        for (int i = 0; i < length; i++) {
            if (tapeMarks[i] == HYPHEN) {
                out.add(MINUS);
            }
            out.add(tape.cells[i]);
        }
        return out.length;
    }

    public long width(int size) throws IllegalArgumentException {
        int length = tape.length;
        tape.length = 0;
        refuseSize(size);
        for (int i = 0; i < length; i++) {
            refuseOutside(tape.cells[i], BLANK, LAST_BYTE);
        }
        Arrays.fill(tapeSizes, 0, length, size);
        return fontNow.partWidth(tape.cells, tapeSizes, 0, length);
    }

    public long word(int i) throws IndexOutOfBoundsException {
        if (i < 0 || i >= out.length) {
            throw new IndexOutOfBoundsException("no byte of the text that was put out");
        }
        long eight = 0;
        for (int k = 0; k < 8; k++) {
            eight = eight << 8 | Math.max(out.byteAt(i + k), 0);
        }
        return eight;
    }

    public int count(int what) throws IllegalArgumentException {
        refuseOutside(what, 0, 2);
        switch (what) {
            case 0:
                return tape.length;
            case 1:
                return out.length;
            default:
                return paragraph.length;
        }
    }

    private void refuseOutside(int n, int least, int greatest) {
        if (n < least || n > greatest) {
            throw new IllegalArgumentException("a number out of range");
        }
    }

    private void refuseSize(int size) {
        refuseOutside(size, LEAST_SIZE, GREATEST_SIZE);
    }

    private void refuseNothingSet() {
        if (!isSet) {
            throw new IllegalStateException("nothing is set");
        }
    }

    /** While nothing is SET only a negative number is known to be out of range, for no lines are there to count. */
    private void askLine(int j) {
        refuseOutside(j, 0, isSet ? settingNow.lineCount - 1 : j);
        refuseNothingSet();
        settingNow.measure(asked, j == 0 ? 0 : settingNow.lineEnds[j - 1], settingNow.lineEnds[j]);
    }

    private static boolean areLetters(byte[] cells, int length) {
        for (int i = 0; i < length && i < cells.length; i++) {
            if (!isLetter(cells[i])) {
                return false;
            }
        }
        return true;
    }

    private static boolean isBlank(int b) {
        return b == NEW_LINE || b == BLANK;
    }

    private static boolean isDigit(int b) {
        return b >= '0' && b <= '9';
    }

    private static boolean isSmallLetter(int b) {
        return b >= 'a' && b <= 'z';
    }

    private static boolean isLetter(int b) {
        return isSmallLetter(b) || b >= 'A' && b <= 'Z';
    }

    private static int smallLetter(int b) {
        return b >= 'A' && b <= 'Z' ? b - 'A' + 'a' : b;
    }

    /** A row of bytes with a limit: THE TAPE and OUT. */
    private static final class Bytes {
        final byte[] cells;
        int length;

        Bytes(int limit) {
            cells = new byte[Math.max(limit, 0)];
            length = 0;
        }

        void add(int b) {
            if (length >= 0 && length < cells.length) {
                cells[length] = (byte) b;
                length++;
            }
        }

        void addInt(int four) {
            add(four >> 24);
            add(four >> 16);
            add(four >> 8);
            add(four);
        }

        /** -1 behind the end, so that a reader need not ask for the end ahead of each look. */
        int byteAt(int i) {
            return i >= 0 && i < length && i < cells.length ? cells[i] & 255 : -1;
        }

        boolean holds(String name, int from) {
            for (int i = 0; i < name.length(); i++) {
                if (byteAt(from + i) != name.charAt(i)) {
                    return false;
                }
            }
            return true;
        }

        /** The first place from there on that has no blank: the length, if all are. */
        int behindBlanks(int from) {
            int i = from;
            while (i < length && isBlank(byteAt(i))) {
                i++;
            }
            return i;
        }

        /** The first place from there on that has a blank: the length, if none has. */
        int behindWord(int from) {
            int i = from;
            while (i < length && !isBlank(byteAt(i))) {
                i++;
            }
            return i;
        }
    }

    /** Numbers told for pairs of bytes, in one chain for each first byte. */
    private static final class PairTable {
        private final int[] heads;
        private final int[] nexts;
        private final int[] seconds;
        private final int[] numbers;
        int used;

        PairTable(int limit) {
            int slots = Math.max(limit, 0);
            heads = new int[BYTE_KINDS];
            nexts = new int[slots];
            seconds = new int[slots];
            numbers = new int[slots];
            used = 0;
            Arrays.fill(heads, -1);
        }

        void forget() {
            used = 0;
            Arrays.fill(heads, -1);
        }

        private int slotOf(int first, int second) {
            if (first < 0 || first >= heads.length) {
                return -1;
            }
            int slot = heads[first];
            for (int steps = 0; steps < used && slot >= 0; steps++) {
                if (seconds[slot] == second) {
                    return slot;
                }
                slot = nexts[slot];
            }
            return -1;
        }

        boolean hasRoomFor(int first, int second) {
            return used < numbers.length || slotOf(first, second) >= 0;
        }

        void tell(int first, int second, int number) {
            int slot = slotOf(first, second);
            if (slot < 0 && used < numbers.length && first >= 0 && first < heads.length) {
                slot = used;
                used++;
                seconds[slot] = second;
                nexts[slot] = heads[first];
                heads[first] = slot;
            }
            if (slot >= 0) {
                numbers[slot] = number;
            }
        }

        int numberOf(int first, int second, int without) {
            int slot = slotOf(first, second);
            return slot >= 0 ? numbers[slot] : without;
        }
    }

    /** Widths, kerns and joins, in thousandths of the size. */
    private static final class Font {
        private static final int WIDTH_WITHOUT = 500;
        private static final int KERN_LIMIT = 200;
        private static final int JOIN_LIMIT = 60;
        private static final int NO_JOIN = -1;

        private final int[] widths;
        private final int[] tellings;
        private int widthsTold;
        final PairTable kerns;
        final PairTable joins;

        Font() {
            widths = new int[BYTE_KINDS];
            tellings = new int[BYTE_KINDS];
            widthsTold = 0;
            kerns = new PairTable(KERN_LIMIT);
            joins = new PairTable(JOIN_LIMIT);
            Arrays.fill(widths, WIDTH_WITHOUT);
        }

        void forget() {
            Arrays.fill(widths, WIDTH_WITHOUT);
            Arrays.fill(tellings, 0);
            widthsTold = 0;
            kerns.forget();
            joins.forget();
        }

        int entries() {
            return widthsTold + kerns.used + joins.used;
        }

        void tellWidth(int b, int number) {
            if (b < 0 || b >= widths.length) {
                return;
            }
            if (tellings[b] == 0) {
                tellings[b] = 1;
                widthsTold++;
            }
            widths[b] = number;
        }

        int byteWidth(int b, int size) {
            return b >= 0 && b < widths.length ? scaled(widths[b], size) : 0;
        }

        /** Java rounds a quotient towards 0, which is what a kern below 0 is to have. */
        private static int scaled(int number, int size) {
            return size * number / 1000;
        }

        long partWidth(byte[] bytes, int[] sizes, int from, int to) {
            long sum = 0;
            int stop = Math.min(to, Math.min(bytes.length, sizes.length));
            int i = Math.max(from, 0);
            while (i < stop) {
                if (i > from && sizes[i - 1] == sizes[i]) {
                    sum += scaled(kerns.numberOf(bytes[i - 1], bytes[i], 0), sizes[i]);
                }
                boolean mayJoin = i + 1 < stop && sizes[i + 1] == sizes[i];
                int join = mayJoin ? joins.numberOf(bytes[i], bytes[i + 1], NO_JOIN) : NO_JOIN;
                if (join == NO_JOIN) {
                    sum += byteWidth(bytes[i], sizes[i]);
                    i++;
                } else {
                    sum += scaled(join, sizes[i]);
                    i += 2;
                }
            }
            return Math.max(sum, 0);
        }
    }

    /** Reads THE TAPE as a FONT. Its parts answer below 0, or false, behind the first SIGN that can't stand. */
    private static final class FontReader {
        private static final String WIDTH_NAME = "width";
        private static final String KERN_NAME = "kern";
        private static final String JOIN_NAME = "join";
        private static final int GREATEST_NUMBER = 5000;
        private static final int GREATEST_KERN = 500;
        private static final int DIGIT_LIMIT = 7;

        private final Bytes text;
        private int position;
        private int broken;

        FontReader(Bytes text) {
            this.text = text;
            position = 0;
            broken = -1;
        }

        /** Answers the PLACE where the text is BROKEN, or -1. */
        int readInto(Font font) {
            font.forget();
            position = 0;
            broken = -1;
            skipBlanks();
            boolean going = true;
            for (int steps = 0; steps < text.length && going && position < text.length; steps++) {
                going = readEntry(font);
                skipBlanks();
            }
            return broken;
        }

        private boolean readEntry(Font font) {
            if (takeName(WIDTH_NAME)) {
                return readWidth(font);
            }
            if (takeName(KERN_NAME)) {
                return readPair(font.kerns, true, GREATEST_KERN);
            }
            if (takeName(JOIN_NAME)) {
                return readPair(font.joins, false, GREATEST_NUMBER);
            }
            return breakHere();
        }

        private boolean readWidth(Font font) {
            int b = takeByte();
            if (b < 0) {
                return false;
            }
            int number = takeNumber(GREATEST_NUMBER);
            if (number < 0) {
                return false;
            }
            if (!takeOne(SEMICOLON)) {
                return breakHere();
            }
            font.tellWidth(b, number);
            return true;
        }

        private boolean readPair(PairTable table, boolean mayBeNegative, int greatest) {
            int first = takeByte();
            if (first < 0) {
                return false;
            }
            skipBlanks();
            int secondPlace = position;
            int second = takeByte();
            if (second < 0) {
                return false;
            }
            if (!table.hasRoomFor(first, second)) {
                broken = secondPlace;
                return false;
            }
            boolean negative = mayBeNegative && takeOne(MINUS);
            int number = takeNumber(greatest);
            if (number < 0) {
                return false;
            }
            if (!takeOne(SEMICOLON)) {
                return breakHere();
            }
            table.tell(first, second, negative ? -number : number);
            return true;
        }

        private void skipBlanks() {
            position = text.behindBlanks(position);
        }

        private boolean breakHere() {
            broken = position;
            return false;
        }

        private boolean takeName(String name) {
            int behind = text.byteAt(position + name.length());
            if (!text.holds(name, position) || isSmallLetter(behind) || isDigit(behind)) {
                return false;
            }
            position += name.length();
            return true;
        }

        private boolean takeOne(int b) {
            skipBlanks();
            if (text.byteAt(position) != b) {
                return false;
            }
            position++;
            return true;
        }

        private int takeByte() {
            skipBlanks();
            int b = text.byteAt(position + 1);
            boolean quoted = text.byteAt(position) == QUOTE && text.byteAt(position + 2) == QUOTE;
            if (!quoted || b < BLANK || b > LAST_BYTE || b == QUOTE) {
                breakHere();
                return -1;
            }
            position += 3;
            return b;
        }

        private int takeNumber(int greatest) {
            skipBlanks();
            int digits = 0;
            int number = 0;
            while (digits <= DIGIT_LIMIT && isDigit(text.byteAt(position + digits))) {
                number = number * 10 + text.byteAt(position + digits) - '0';
                digits++;
            }
            if (digits < 1 || digits > DIGIT_LIMIT || number > greatest) {
                breakHere();
                return -1;
            }
            position += digits;
            return number;
        }
    }

    /**
     * PATTERNS, EXCEPTIONS and ends. The PATTERNS stand in a tree of their letters and dots, so that
     * one walk from a place of a row finds all that begin there, however many there are.
     */
    private static final class HyphenTable {
        static final int PATTERN_LIMIT = 300;
        static final int PATTERN_LETTERS = 12;
        /** The letters and a dot at each end. */
        static final int PATTERN_SIGNS = 14;
        static final int EXCEPTION_LIMIT = 60;
        static final int EXCEPTION_LETTERS = 30;
        private static final int NODE_LIMIT = PATTERN_LIMIT * PATTERN_SIGNS + 1;
        private static final int AHEAD_WITHOUT = 2;
        private static final int BEHIND_WITHOUT = 3;

        private final int[] children;
        private final int[] siblings;
        private final byte[] signs;
        private final int[] patternsAt;
        private int nodes;
        /** The digit of place k of a PATTERN stands in the four bits from 4 * k on. */
        private final long[] patternDigits;
        private int patterns;
        private final byte[] exceptionLetters;
        private final int[] exceptionLengths;
        /** Bit k is 1 where a - stands behind k letters. */
        private final int[] exceptionPlaces;
        private int exceptions;
        private int leastAhead;
        private int leastBehind;
        private final int[] levels;

        HyphenTable() {
            children = new int[NODE_LIMIT];
            siblings = new int[NODE_LIMIT];
            signs = new byte[NODE_LIMIT];
            patternsAt = new int[NODE_LIMIT];
            patternDigits = new long[PATTERN_LIMIT];
            exceptionLetters = new byte[EXCEPTION_LIMIT * EXCEPTION_LETTERS];
            exceptionLengths = new int[EXCEPTION_LIMIT];
            exceptionPlaces = new int[EXCEPTION_LIMIT];
            levels = new int[TEXT_LIMIT + 1];
            forget();
        }

        void forget() {
            children[0] = -1;
            siblings[0] = -1;
            patternsAt[0] = -1;
            nodes = 1;
            patterns = 0;
            exceptions = 0;
            leastAhead = AHEAD_WITHOUT;
            leastBehind = BEHIND_WITHOUT;
        }

        int entries() {
            return patterns + exceptions;
        }

        void tellEnds(int ahead, int behind) {
            leastAhead = ahead;
            leastBehind = behind;
        }

        /** False if it is one too much. */
        boolean tellPattern(byte[] letters, int length, long digits) {
            int node = 0;
            for (int i = 0; i < length && i < letters.length && node >= 0; i++) {
                int next = childOf(node, letters[i]);
                node = next >= 0 ? next : patterns < PATTERN_LIMIT ? newChild(node, letters[i]) : -1;
            }
            if (node < 0) {
                return false;
            }
            if (patternsAt[node] < 0) {
                if (patterns >= PATTERN_LIMIT) {
                    return false;
                }
                patternsAt[node] = patterns;
                patterns++;
            }
            patternDigits[patternsAt[node]] = digits;
            return true;
        }

        private int childOf(int node, int sign) {
            int child = children[node];
            for (int steps = 0; steps < nodes && child >= 0; steps++) {
                if (signs[child] == sign) {
                    return child;
                }
                child = siblings[child];
            }
            return -1;
        }

        private int newChild(int node, int sign) {
            if (nodes >= NODE_LIMIT) {
                return -1;
            }
            int child = nodes;
            nodes++;
            children[child] = -1;
            siblings[child] = children[node];
            signs[child] = (byte) sign;
            patternsAt[child] = -1;
            children[node] = child;
            return child;
        }

        /** False if it is one too much. */
        boolean tellException(byte[] letters, int length, int places) {
            int slot = exceptionOf(letters, 0, length);
            if (slot < 0) {
                if (exceptions >= EXCEPTION_LIMIT || length > EXCEPTION_LETTERS) {
                    return false;
                }
                slot = exceptions;
                exceptions++;
                System.arraycopy(letters, 0, exceptionLetters, slot * EXCEPTION_LETTERS, length);
                exceptionLengths[slot] = length;
            }
            exceptionPlaces[slot] = places;
            return true;
        }

        private int exceptionOf(byte[] bytes, int from, int length) {
            for (int slot = 0; slot < exceptions; slot++) {
                if (exceptionLengths[slot] == length && isException(slot, bytes, from)) {
                    return slot;
                }
            }
            return -1;
        }

        private boolean isException(int slot, byte[] bytes, int from) {
            int start = slot * EXCEPTION_LETTERS;
            for (int i = 0; i < exceptionLengths[slot]; i++) {
                if (exceptionLetters[start + i] != smallLetter(bytes[from + i])) {
                    return false;
                }
            }
            return true;
        }

        /** Writes HYPHEN into the marks of all PLACES of the row of letters from .. to - 1. */
        void markPlaces(byte[] bytes, int from, int to, int[] marks) {
            if (from < 0 || to > bytes.length || to > marks.length || to - from >= levels.length) {
                return;
            }
            int length = to - from;
            int last = length - leastBehind;
            if (leastAhead > last) {
                return;
            }
            int exception = exceptionOf(bytes, from, length);
            if (exception < 0) {
                raiseLevels(bytes, from, length);
            }
            for (int k = leastAhead; k <= last; k++) {
                boolean odd = exception < 0 ? (levels[k] & 1) == 1 : hasPlace(exception, k);
                if (odd) {
                    marks[from + k] = HYPHEN;
                }
            }
        }

        private boolean hasPlace(int exception, int k) {
            return k < EXCEPTION_LETTERS && (exceptionPlaces[exception] >> k & 1) == 1;
        }

        /** The row is walked with its dots: sign 0 is the one ahead, sign length + 1 the one behind. */
        private void raiseLevels(byte[] bytes, int from, int length) {
            Arrays.fill(levels, 0, length + 1, 0);
            for (int start = 0; start <= length; start++) {
                int node = 0;
                for (int i = start; i <= length + 1 && i < start + PATTERN_SIGNS && node >= 0; i++) {
                    boolean dot = i == 0 || i == length + 1;
                    node = childOf(node, dot ? DOT : smallLetter(bytes[from + i - 1]));
                    if (node >= 0 && patternsAt[node] >= 0) {
                        raiseLevelsBy(patternDigits[patternsAt[node]], Math.max(start - 1, 0), length);
                    }
                }
            }
        }

        private void raiseLevelsBy(long digits, int firstPlace, int length) {
            for (int k = 0; k <= PATTERN_LETTERS && firstPlace + k <= length; k++) {
                int digit = (int) (digits >> 4 * k) & 15;
                levels[firstPlace + k] = Math.max(levels[firstPlace + k], digit);
            }
        }
    }

    /** Reads THE TAPE as HYPHENS. */
    private static final class HyphenReader {
        private static final String ENDS_NAME = "ends";

        private final Bytes text;
        private int wordFrom;
        private int wordTo;
        private final byte[] letters;
        private int letterCount;

        HyphenReader(Bytes text) {
            this.text = text;
            wordFrom = 0;
            wordTo = 0;
            letters = new byte[HyphenTable.EXCEPTION_LETTERS];
            letterCount = 0;
        }

        /** Answers the PLACE where the text is BROKEN, or -1. */
        int readInto(HyphenTable table) {
            table.forget();
            wordFrom = 0;
            wordTo = 0;
            nextWord();
            for (int steps = 0; steps < text.length && wordFrom < wordTo; steps++) {
                if (!readEntry(table)) {
                    return wordFrom;
                }
                nextWord();
            }
            return -1;
        }

        /** Behind the last word both ends of the word are the text's length, which is where something is missing. */
        private void nextWord() {
            wordFrom = text.behindBlanks(wordTo);
            wordTo = text.behindWord(wordFrom);
        }

        private boolean readEntry(HyphenTable table) {
            if (isEndsName()) {
                nextWord();
                return readEnds(table);
            }
            if (text.byteAt(wordFrom) == EQUALS_SIGN) {
                return readException(table);
            }
            return readPattern(table);
        }

        private boolean isEndsName() {
            return wordTo - wordFrom == ENDS_NAME.length() && text.holds(ENDS_NAME, wordFrom);
        }

        private boolean readEnds(HyphenTable table) {
            int ahead = text.byteAt(wordFrom) - '0';
            int behind = text.byteAt(wordFrom + 1) - '0';
            if (wordTo - wordFrom != 2 || ahead < 1 || ahead > 9 || behind < 1 || behind > 9) {
                return false;
            }
            table.tellEnds(ahead, behind);
            return true;
        }

        private boolean addLetter(int b, int limit) {
            if (!isSmallLetter(b) || letterCount >= limit) {
                return false;
            }
            return addSign(b);
        }

        private boolean addSign(int b) {
            if (letterCount < 0 || letterCount >= letters.length) {
                return false;
            }
            letters[letterCount] = (byte) b;
            letterCount++;
            return true;
        }

        private boolean readException(HyphenTable table) {
            letterCount = 0;
            int places = 0;
            boolean mayPart = false;
            for (int i = wordFrom + 1; i < wordTo; i++) {
                int b = text.byteAt(i);
                if (b == MINUS) {
                    if (!mayPart) {
                        return false;
                    }
                    places |= 1 << letterCount;
                    mayPart = false;
                } else if (addLetter(b, HyphenTable.EXCEPTION_LETTERS)) {
                    mayPart = true;
                } else {
                    return false;
                }
            }
            // The word may end just where it may be parted: behind a letter.
            return mayPart && table.tellException(letters, letterCount, places);
        }

        private boolean readPattern(HyphenTable table) {
            letterCount = 0;
            boolean dotAhead = text.byteAt(wordFrom) == DOT;
            int from = dotAhead ? wordFrom + 1 : wordFrom;
            boolean dotBehind = from < wordTo && text.byteAt(wordTo - 1) == DOT;
            int to = dotBehind ? wordTo - 1 : wordTo;
            if (dotAhead) {
                addSign(DOT);
            }
            int dots = letterCount;
            long digits = 0;
            boolean mayBeDigit = true;
            for (int i = from; i < to; i++) {
                int b = text.byteAt(i);
                if (isDigit(b) && mayBeDigit) {
                    digits |= (long) (b - '0') << 4 * (letterCount - dots);
                    mayBeDigit = false;
                } else if (addLetter(b, HyphenTable.PATTERN_LETTERS + dots)) {
                    mayBeDigit = true;
                } else {
                    return false;
                }
            }
            if (letterCount == dots) {
                return false;
            }
            if (dotBehind) {
                addSign(DOT);
            }
            return table.tellPattern(letters, letterCount, digits);
        }
    }

    /** THE PARAGRAPH. A blank at its end waits, as its size alone, until another byte follows. */
    private static final class Paragraph {
        final byte[] bytes;
        final int[] sizes;
        int length;
        private int waitingBlank;

        Paragraph() {
            bytes = new byte[TEXT_LIMIT];
            sizes = new int[TEXT_LIMIT];
            length = 0;
            waitingBlank = 0;
        }

        int empty() {
            int before = length;
            length = 0;
            waitingBlank = 0;
            return before;
        }

        static int wrongByte(byte[] cells, int count) {
            for (int i = 0; i < count && i < cells.length; i++) {
                if (!isBlank(cells[i]) && (cells[i] < BLANK || cells[i] > LAST_BYTE)) {
                    return i;
                }
            }
            return -1;
        }

        int lengthWith(byte[] cells, int count) {
            int sum = length;
            boolean blankWaits = waitingBlank > 0;
            for (int i = 0; i < count && i < cells.length; i++) {
                if (isBlank(cells[i])) {
                    blankWaits = sum > 0;
                } else {
                    sum += blankWaits ? 2 : 1;
                    blankWaits = false;
                }
            }
            return sum;
        }

        void append(byte[] cells, int count, int size) {
            for (int i = 0; i < count && i < cells.length; i++) {
                if (!isBlank(cells[i])) {
                    addWaitingBlank();
                    addByte(cells[i], size);
                } else if (length > 0 && waitingBlank == 0) {
                    waitingBlank = size;
                }
            }
        }

        private void addWaitingBlank() {
            if (waitingBlank > 0) {
                addByte(BLANK, waitingBlank);
                waitingBlank = 0;
            }
        }

        private void addByte(int b, int size) {
            if (length < TEXT_LIMIT) {
                bytes[length] = (byte) b;
                sizes[length] = size;
                length++;
            }
        }
    }

    /**
     * The BREAKS of what was SET, with a copy of its text. First it is found where they are, so that
     * too many can be refused, then what lies between them. All sums go from the beginning up to and
     * with the BREAK; number 0 is the beginning, where all of them are 0.
     */
    private static final class Breaks {
        final byte[] text;
        private int textLength;
        /** The kind of BREAK that has as many bytes ahead as the index says. */
        private final int[] marks;
        int last;
        final int[] kinds;
        final int[] aheads;
        final int[] hyphenWidths;
        final int[] glueCounts;
        final long[] partSums;
        final long[] glueSums;
        final long[] stretchSums;
        final long[] shrinkSums;
        long widest;

        Breaks() {
            text = new byte[TEXT_LIMIT];
            textLength = 0;
            marks = new int[TEXT_LIMIT + 1];
            last = 0;
            kinds = new int[BREAK_LIMIT + 1];
            aheads = new int[BREAK_LIMIT + 1];
            hyphenWidths = new int[BREAK_LIMIT + 1];
            glueCounts = new int[BREAK_LIMIT + 1];
            partSums = new long[BREAK_LIMIT + 1];
            glueSums = new long[BREAK_LIMIT + 1];
            stretchSums = new long[BREAK_LIMIT + 1];
            shrinkSums = new long[BREAK_LIMIT + 1];
            widest = 0;
        }

        /** Without a table no HYPHENS are marked. */
        void mark(Paragraph paragraph, HyphenTable table) {
            textLength = paragraph.length;
            System.arraycopy(paragraph.bytes, 0, text, 0, textLength);
            Arrays.fill(marks, NO_BREAK);
            for (int i = 0; i < textLength; i++) {
                if (text[i] == BLANK) {
                    marks[i] = GLUE;
                } else if (text[i] == MINUS && i + 1 < textLength && text[i + 1] != BLANK) {
                    marks[i + 1] = DASH;
                }
            }
            if (table != null) {
                markHyphens(table);
            }
            marks[textLength] = END;
        }

        private void markHyphens(HyphenTable table) {
            int from = 0;
            for (int i = 0; i <= textLength; i++) {
                if (i == textLength || !isLetter(text[i])) {
                    table.markPlaces(text, from, i, marks);
                    from = i + 1;
                }
            }
        }

        int marked() {
            int sum = 0;
            for (int i = 0; i <= textLength; i++) {
                if (marks[i] != NO_BREAK) {
                    sum++;
                }
            }
            return sum;
        }

        void fill(int[] sizes, Font font) {
            last = 0;
            widest = 0;
            int from = 0;
            for (int i = 1; i <= textLength && i <= sizes.length; i++) {
                if (marks[i] != NO_BREAK) {
                    int hyphenWidth = marks[i] == HYPHEN ? font.byteWidth(MINUS, sizes[i - 1]) : 0;
                    addBreak(marks[i], i, font.partWidth(text, sizes, from, i), hyphenWidth);
                    from = i;
                    if (marks[i] == GLUE && i < sizes.length) {
                        addGlue(font.byteWidth(BLANK, sizes[i]));
                        from = i + 1;
                    }
                }
            }
        }

        /** The sums begin as those of the BREAK before and grow by what lies between. */
        private void addBreak(int kind, int ahead, long partWidth, int hyphenWidth) {
            if (last >= BREAK_LIMIT) {
                return;
            }
            last++;
            kinds[last] = kind;
            aheads[last] = ahead;
            hyphenWidths[last] = hyphenWidth;
            glueCounts[last] = glueCounts[last - 1];
            partSums[last] = partSums[last - 1] + partWidth;
            glueSums[last] = glueSums[last - 1];
            stretchSums[last] = stretchSums[last - 1];
            shrinkSums[last] = shrinkSums[last - 1];
            widest = Math.max(widest, partWidth + hyphenWidth);
        }

        private void addGlue(int glueWidth) {
            glueCounts[last]++;
            glueSums[last] += glueWidth;
            stretchSums[last] += glueWidth / 2;
            shrinkSums[last] += glueWidth / 3;
        }

        boolean isParted(int b) {
            return kinds[b] == HYPHEN || kinds[b] == DASH;
        }

        int textFrom(int b) {
            return b > 0 && kinds[b] == GLUE ? aheads[b] + 1 : aheads[b];
        }

        /** The GLUE that a line is broken at is not in it: so the sums of the BREAK ahead of its end count. */
        int wordsBetween(int from, int to) {
            return glueCounts[to - 1] - glueCounts[from] + 1;
        }

        /** The BREAK that is the n-th GLUE behind another one; that one itself if there is none. */
        int glueBehind(int from, int n) {
            for (int b = from + 1; b <= last; b++) {
                if (kinds[b] == GLUE && glueCounts[b] - glueCounts[from] == n) {
                    return b;
                }
            }
            return from;
        }
    }

    /** One line from a BREAK to a later one: filled again for each that is looked at. */
    private static final class Line {
        private static final int GREATEST_RATIO = 100000;
        private static final int TOO_LONG_RATIO = -1000;

        int from;
        int to;
        /** N, A, Z and L of the document. */
        long natural;
        long stretch;
        long shrink;
        long room;
        boolean toEnd;
        boolean tooLong;
        int ratio;
        int badness;
        int grade;

        void rate() {
            tooLong = natural - room > shrink;
            ratio = ratioOfWidths();
            badness = tooLong ? WORST_BADNESS : badnessOfRatio();
            grade = gradeOfRatio();
        }

        private int ratioOfWidths() {
            if (tooLong) {
                return TOO_LONG_RATIO;
            }
            if (natural > room) {
                return shrink > 0 ? (int) -(((natural - room) * 1000 + shrink - 1) / shrink) : TOO_LONG_RATIO;
            }
            if (natural == room || toEnd) {
                return 0;
            }
            return stretch > 0 ? (int) Math.min((room - natural) * 1000 / stretch, GREATEST_RATIO) : GREATEST_RATIO;
        }

        private int badnessOfRatio() {
            long r = ratio < 0 ? -ratio : ratio;
            return (int) Math.min(100 * r * r * r / 1000000000L, WORST_BADNESS);
        }

        private int gradeOfRatio() {
            if (ratio < -500) {
                return 0;
            }
            if (ratio <= 500) {
                return 1;
            }
            return ratio <= 1000 ? 2 : 3;
        }

        boolean isAllowed(int taken) {
            return badness <= taken && (!tooLong || taken == LONG_LINES_TAKEN);
        }
    }

    /** What was SET: the BREAKS, the shape of the lines and those that were chosen. */
    private static final class Setting {
        private static final int LEAST_ROOM = 1000;
        private static final int HYPHEN_COST = 2500;
        private static final int DASH_COST = 900;
        private static final int PARTED_AGAIN_COST = 3000;
        private static final int PARTED_AHEAD_OF_END_COST = 5000;
        private static final int GRADE_COST = 10000;
        private static final long TOO_LONG_COST = 1000000000L;

        final Breaks breaks;
        private int width;
        private int indent;
        private int align;
        int taken;
        long totalCost;
        int lineCount;
        /** The BREAK that each line goes to. */
        final int[] lineEnds;
        final long[] lineCosts;

        Setting() {
            breaks = new Breaks();
            lineEnds = new int[BREAK_LIMIT];
            lineCosts = new long[BREAK_LIMIT];
        }

        void shape(int newWidth, int newIndent, int newAlign) {
            width = newWidth;
            indent = newIndent;
            align = newAlign;
        }

        private long roomBehind(int from) {
            return from == 0 ? Math.max(width - indent, LEAST_ROOM) : width;
        }

        void measure(Line line, int from, int to) {
            line.from = from;
            line.to = to;
            line.room = roomBehind(from);
            line.natural = partsAndGlues(from, to) + breaks.hyphenWidths[to];
            if (align == JUST) {
                line.stretch = breaks.stretchSums[to - 1] - breaks.stretchSums[from];
                line.shrink = breaks.shrinkSums[to - 1] - breaks.shrinkSums[from];
            } else {
                line.stretch = line.room;
                line.shrink = 0;
            }
            line.toEnd = to == breaks.last;
            line.rate();
        }

        private long partsAndGlues(int from, int to) {
            return breaks.partSums[to] - breaks.partSums[from] + breaks.glueSums[to - 1] - breaks.glueSums[from];
        }

        /** Then each longer one from there is TOO LONG as well: no part and no glue takes room away. */
        boolean isTooLongUnparted(Line line) {
            return partsAndGlues(line.from, line.to) - line.shrink > line.room;
        }

        /** All of the COST but what hangs on the CLASS of the line before. */
        long costAlone(Line line) {
            long cost = (10L + line.badness) * (10L + line.badness);
            boolean partedBefore = line.from > 0 && breaks.isParted(line.from);
            if (breaks.isParted(line.to)) {
                cost += breaks.kinds[line.to] == HYPHEN ? HYPHEN_COST : DASH_COST;
                cost += partedBefore ? PARTED_AGAIN_COST : 0;
            } else if (line.toEnd && partedBefore) {
                cost += PARTED_AHEAD_OF_END_COST;
            }
            if (line.tooLong) {
                cost += TOO_LONG_COST + line.natural - line.shrink - line.room;
            }
            return cost;
        }

        long costBehind(int gradeBefore, Line line) {
            return Math.abs(line.grade - gradeBefore) > 1 ? GRADE_COST : 0;
        }

        /** Where the line's first WORD begins. */
        long beginning(Line line) {
            long left = line.from == 0 ? indent : 0;
            long spare = Math.max(line.room - line.natural, 0);
            if (align == RIGHT) {
                return left + spare;
            }
            return align == MIDDLE ? left + spare / 2 : left;
        }

        long wordBeginning(Line line, int w) {
            if (w <= 0) {
                return beginning(line);
            }
            int glue = breaks.glueBehind(line.from, w);
            long unmoved = breaks.partSums[glue] - breaks.partSums[line.from]
                    + breaks.glueSums[glue] - breaks.glueSums[line.from];
            return beginning(line) + unmoved + movedBehind(line, glue);
        }

        private long movedBehind(Line line, int glue) {
            if (align != JUST) {
                return 0;
            }
            if (line.natural > line.room) {
                long shrink = breaks.shrinkSums[glue] - breaks.shrinkSums[line.from];
                if (line.tooLong || line.shrink <= 0) {
                    return -shrink;
                }
                return -((line.natural - line.room) * shrink / line.shrink);
            }
            if (line.toEnd || line.stretch <= 0) {
                return 0;
            }
            long stretch = breaks.stretchSums[glue] - breaks.stretchSums[line.from];
            return (line.room - line.natural) * stretch / line.stretch;
        }

        boolean areBreaks(byte[] cells, int length) {
            if (length % 2 != 0) {
                return false;
            }
            int before = 0;
            for (int i = 0; i + 1 < length; i += 2) {
                int b = numberAt(cells, i);
                if (b <= before || b >= breaks.last) {
                    return false;
                }
                before = b;
            }
            return true;
        }

        private static int numberAt(byte[] cells, int i) {
            return i >= 0 && i + 1 < cells.length ? (cells[i] & 255) << 8 | cells[i + 1] & 255 : 0;
        }

        /** The cells hold what areBreaks has seen. */
        long costOfRow(byte[] cells, int length, Line line) {
            long sum = 0;
            int from = 0;
            int grade = FIRST_GRADE;
            for (int i = 0; i <= length; i += 2) {
                int to = i < length ? numberAt(cells, i) : breaks.last;
                measure(line, from, to);
                if (!line.isAllowed(taken)) {
                    return -1;
                }
                sum += costAlone(line) + costBehind(grade, line);
                grade = line.grade;
                from = to;
            }
            return sum;
        }
    }

    /**
     * Chooses the row of BREAKS. What a line costs hangs on the one before only by its end and its
     * CLASS: so for each BREAK and each CLASS of a line that ends there the best row is kept.
     */
    private static final class Chooser {
        private static final int STATES = (BREAK_LIMIT + 1) * GRADES;
        private static final long NOT_REACHED = -1;

        private final long[] costs;
        private final int[] breaksBefore;
        private final int[] gradesBefore;
        private final Line line;

        Chooser() {
            costs = new long[STATES];
            breaksBefore = new int[STATES];
            gradesBefore = new int[STATES];
            line = new Line();
        }

        void choose(Setting setting, int tolerance) {
            if (!findsRow(setting, tolerance) && !findsRow(setting, WORST_BADNESS)) {
                findsRow(setting, LONG_LINES_TAKEN);
            }
            keepRow(setting);
        }

        private boolean findsRow(Setting setting, int taken) {
            setting.taken = taken;
            int last = setting.breaks.last;
            Arrays.fill(costs, 0, (last + 1) * GRADES, NOT_REACHED);
            costs[FIRST_GRADE] = 0;
            for (int from = 0; from < last; from++) {
                if (isReached(from)) {
                    goOnFrom(from, setting);
                }
            }
            return isReached(last);
        }

        private boolean isReached(int b) {
            return bestGrade(b) >= 0;
        }

        private void goOnFrom(int from, Setting setting) {
            for (int to = from + 1; to <= setting.breaks.last; to++) {
                setting.measure(line, from, to);
                if (line.isAllowed(setting.taken)) {
                    addLine(setting);
                } else if (line.tooLong && setting.isTooLongUnparted(line)) {
                    return;
                }
            }
        }

        private void addLine(Setting setting) {
            long alone = setting.costAlone(line);
            int state = line.to * GRADES + line.grade;
            for (int grade = 0; grade < GRADES; grade++) {
                long before = costs[line.from * GRADES + grade];
                if (before != NOT_REACHED) {
                    long cost = before + alone + setting.costBehind(grade, line);
                    if (isBetter(state, cost, grade)) {
                        costs[state] = cost;
                        breaksBefore[state] = line.from;
                        gradesBefore[state] = grade;
                    }
                }
            }
        }

        /**
         * Lines come in the order of their first BREAKS, so that of rows that cost the same the one
         * with the lesser BREAK stands already. Two rows that end with the same line have lines of
         * different CLASSES before it, and so different BREAKS ahead of that.
         */
        private boolean isBetter(int state, long cost, int grade) {
            if (costs[state] == NOT_REACHED || cost < costs[state]) {
                return true;
            }
            if (cost > costs[state]) {
                return false;
            }
            int rival = line.from * GRADES + gradesBefore[state];
            return breaksBefore[state] == line.from
                    && breaksBefore[line.from * GRADES + grade] < breaksBefore[rival];
        }

        /** The CLASS of the last line of the best row to a BREAK, -1 if there is none. */
        private int bestGrade(int b) {
            int best = -1;
            for (int grade = 0; grade < GRADES; grade++) {
                int state = b * GRADES + grade;
                if (costs[state] != NOT_REACHED && (best < 0 || isLess(state, b * GRADES + best))) {
                    best = grade;
                }
            }
            return best;
        }

        private boolean isLess(int state, int other) {
            if (costs[state] != costs[other]) {
                return costs[state] < costs[other];
            }
            return breaksBefore[state] < breaksBefore[other];
        }

        private void keepRow(Setting setting) {
            int last = setting.breaks.last;
            int grade = bestGrade(last);
            if (grade < 0) {
                return;
            }
            setting.totalCost = costs[last * GRADES + grade];
            setting.lineCount = linesTo(last, grade);
            int b = last;
            for (int j = setting.lineCount - 1; j >= 0; j--) {
                int state = b * GRADES + grade;
                int stateBefore = breaksBefore[state] * GRADES + gradesBefore[state];
                setting.lineEnds[j] = b;
                setting.lineCosts[j] = costs[state] - costs[stateBefore];
                b = breaksBefore[state];
                grade = gradesBefore[state];
            }
        }

        private int linesTo(int last, int lastGrade) {
            int lines = 0;
            int b = last;
            int grade = lastGrade;
            for (int steps = 0; steps < last && b > 0; steps++) {
                int state = b * GRADES + grade;
                b = breaksBefore[state];
                grade = gradesBefore[state];
                lines++;
            }
            return lines;
        }
    }
}
