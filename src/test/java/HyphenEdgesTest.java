/** HYPHENS, PLACES and promises 5 and 16, sentence by sentence at their bounds. */
public final class HyphenEdgesTest {
    public static void main(String[] args) {
        wordBytes();
        blanks();
        noneOfThese();
        endsDigits();
        endsMissing();
        endsWithout();
        endsToldAgain();
        exceptionLetters();
        exceptionDashes();
        patternLetters();
        patternDots();
        patternDigits();
        patternLimit();
        exceptionLimit();
        lastCounts();
        answers();
        capitals();
        exceptionsFirst();
        dotsOfTheRow();
        whereverTheyStand();
        greatestAndOdd();
        endsAhead();
        endsBehind();
        nothingStays();
        brokenChangesNothing();
        partsLength();
        partsLetters();
        partsOut();
        Check.done("HyphenEdgesTest");
    }

    private static void reads(String text, int due) {
        LineSetter x = new LineSetter();
        Check.same("hyphens " + text, Check.hyphens(x, text), due + " -1");
    }

    private static void broken(String text, int place) {
        LineSetter x = new LineSetter();
        Check.same("hyphens " + text, Check.hyphens(x, text), "throws." + Check.UOE + " " + place);
    }

    private static void parted(String hyphens, String letters, String due) {
        LineSetter x = new LineSetter();
        Check.same("hyphens " + hyphens, Check.hyphens(x, hyphens).endsWith(" -1"), true);
        Check.same("parts of " + letters + " by " + hyphens, Check.parts(x, letters), due);
    }

    private static void wordBytes() {
        Check.sentence("a WORD of another byte is BROKEN at its first byte");
        for (int b : new int[] {0, 9, 11, 13, 31, 127, 128, 160, 255}) {
            broken("" + (char) b, 0);
            broken("ab  ab" + (char) b, 4);
            broken("ab \n" + (char) b + "ab", 4);
            broken("ab\na1" + (char) b + "b ?", 3);
            broken("ends " + (char) b, 5);
            broken("ends" + (char) b, 0);
        }
        for (int b : new int[] {33, 47, 58, 64, 65, 90, 91, 96, 123, 126}) {
            broken("ab a" + (char) b, 3);
            broken("ab " + (char) b + "a", 3);
            broken("ab =a" + (char) b + "a", 3);
        }
    }

    private static void blanks() {
        Check.sentence("WORDS of bytes 33 .. 126, with blanks between");
        reads("", 0);
        reads(" ", 0);
        reads("\n \n", 0);
        reads("a", 1);
        reads(" a", 1);
        reads("a\n", 1);
        reads("a b", 2);
        reads("a\nb", 2);
        reads("\n\n a \n  b \n", 2);
        broken(" \n ?", 3);
    }

    private static void noneOfThese() {
        Check.sentence("a WORD that is none of these is BROKEN at its first byte");
        for (String word : new String[] {"1", "12", "11", ".", "..", ".1", "1.", ".1.", "-", "a-b", "=", "==", "=.", "=1", "END", "Ends", "ends.ends"}) {
            broken(word, 0);
            broken("ab " + word, 3);
            broken("ab ends 11\n " + word + " ?", 12);
        }
        reads("end", 1);
        reads("endss", 1);
        reads("ends1", 1);
        reads(".ends", 1);
        reads("=ends", 1);
    }

    private static void endsDigits() {
        Check.sentence("ends, then two digits 1 to 9 in a WORD of their own");
        for (String word : new String[] {"11", "19", "91", "99", "23"}) {
            reads("ends " + word, 0);
            reads("ends\n\n" + word + "\n", 0);
            reads("a ends " + word + " b", 2);
        }
        for (String word : new String[] {"1", "9", "01", "10", "00", "90", "09", "111", "1a", "a1", "/1", "1/", ":1", "1:", "-1", "1.", "ab", "ends", "=a"}) {
            broken("ends " + word, 5);
            broken("ends " + word + " 11", 5);
        }
        broken("ends 1 1", 5);
        broken("ends 11 11", 8);
        broken("ends11", 0);
    }

    private static void endsMissing() {
        Check.sentence("its length at the end, if something is missing");
        broken("ends", 4);
        broken("ends ", 5);
        broken("ends\n\n ", 7);
        broken("ab ends", 7);
        broken("ends 11 ends", 12);
        broken("ends 11 ends ", 13);
    }

    private static void endsWithout() {
        Check.sentence("2 and 3 without");
        parted("1a a1", "aaaa", "aaaa");
        parted("1a a1", "aaaaa", "aa-aaa");
        parted("1a a1", "aaaaaa", "aa-a-aaa");
        parted("=a-a-a-a-a-a", "aaaaaa", "aa-a-aaa");
        LineSetter x = new LineSetter();
        Check.hyphens(x, "ends 11 1a");
        Check.hyphens(x, "1a");
        Check.same("also behind hyphens that told them", Check.parts(x, "aaaaa"), "aa-aaa");
        LineSetter y = new LineSetter();
        Check.hyphens(y, "ends 11 1a");
        Check.hyphens(y, "ends 12 1a");
        Check.hyphens(y, "1a");
        Check.same("and behind two of them", Check.parts(y, "aaaaa"), "aa-aaa");
    }

    private static void endsToldAgain() {
        Check.sentence("told again: the last counts");
        parted("ends 11 ends 22 1a", "aaaaa", "aa-a-aa");
        parted("ends 22 1a ends 11", "aaa", "a-a-a");
        parted("1a ends 99 ends 98 ends 31", "aaaaa", "aaa-a-a");
    }

    private static void exceptionLetters() {
        Check.sentence("= and 1 to 30 letters a .. z");
        broken("ab =", 3);
        reads("=a", 1);
        reads("=z", 1);
        reads("=" + "a".repeat(29), 1);
        reads("=" + "a".repeat(30), 1);
        broken("ab =" + "a".repeat(31), 3);
        reads("=" + "a-".repeat(29) + "a", 1);
        broken("ab =" + "a-".repeat(30) + "a", 3);
        for (char b : new char[] {'A', 'Z', '`', '{', '0', '9', '.', '='}) {
            broken("ab =" + b, 3);
            broken("ab =a-" + b, 3);
            broken("ab =" + "a".repeat(29) + b, 3);
        }
        parted("ends 11 =" + "ab-".repeat(14) + "ab", "ab".repeat(15), "ab-".repeat(14) + "ab");
        parted("ends 11 =" + "a".repeat(29) + "-a", "a".repeat(30), "a".repeat(29) + "-a");
        parted("ends 11 =" + "a".repeat(29) + "-a", "a".repeat(29), "a".repeat(29));
        parted("ends 11 =" + "a".repeat(29) + "-a", "a".repeat(31), "a".repeat(31));
    }

    private static void exceptionDashes() {
        Check.sentence("no two - together, none at an end");
        broken("ab =a--b", 3);
        broken("ab =a---b", 3);
        broken("ab =-ab", 3);
        broken("ab =ab-", 3);
        broken("ab =-", 3);
        broken("ab =-a-", 3);
        reads("=a-b", 1);
        reads("=a-b-c", 1);
        reads("=ab", 1);
    }

    private static void patternLetters() {
        Check.sentence("a PATTERN: 1 to 12 letters a .. z");
        reads("a", 1);
        reads("z", 1);
        reads("a".repeat(11), 1);
        reads("a".repeat(12), 1);
        broken("ab " + "a".repeat(13), 3);
        broken("ab ." + "a".repeat(13), 3);
        broken("ab " + "a".repeat(13) + ".", 3);
        reads("." + "a".repeat(12) + ".", 1);
        reads(".1" + "a2".repeat(12) + ".", 1);
        broken("ab .1" + "a2".repeat(13) + ".", 3);
        broken("ab .", 3);
        broken("ab 5", 3);
        parted("ends 11 " + "a".repeat(12) + "1", "a".repeat(13), "a".repeat(12) + "-a");
        parted("ends 11 1" + "a".repeat(12), "a".repeat(13), "a-" + "a".repeat(12));
        parted("ends 11 ." + "a".repeat(6) + "1" + "a".repeat(6) + ".", "a".repeat(12), "a".repeat(6) + "-" + "a".repeat(6));
        parted("ends 11 .1" + "a1".repeat(12) + ".", "a".repeat(12), "a-".repeat(11) + "a");
        parted("ends 11 a1", "aa", "a-a");
        parted("ends 11 z1", "zz", "z-z");
    }

    private static void patternDots() {
        Check.sentence("a . ahead or behind or both");
        reads(".a", 1);
        reads("a.", 1);
        reads(".a.", 1);
        for (String word : new String[] {"..a", "a..", "a.b", ".a.b", ".a.b.", "a.b.", "..", "...", ".a.."}) {
            broken("ab " + word, 3);
        }
    }

    private static void patternDigits() {
        Check.sentence("digits 0 .. 9 or none (one at most in a place: between two letters, ahead of the first, behind the last, within the .)");
        for (String word : new String[] {"0a", "9a", "a0", "a9", "a0b", "a9b", "1a2b3", ".1a", "a1.", ".1a1.", ".1a2b3."}) {
            reads(word, 1);
        }
        for (String word : new String[] {"12a", "a12", "a12b", "a00b", "1.a", "a.1", "1.a.1", ".12a", "a12.", "1.1a", "a1.1", "1", "12", ".1."}) {
            broken("ab " + word, 3);
        }
        parted("ends 11 a1b", "ab", "a-b");
        parted("ends 11 1b", "ab", "a-b");
        parted("ends 11 a1", "ab", "a-b");
        parted("ends 11 .a1", "ab", "a-b");
        parted("ends 11 1b.", "ab", "a-b");
        parted("ends 11 .1a", "aa", "aa");
        parted("ends 11 a1.", "aa", "aa");
    }

    /** Words of two letters, each different: with what is ahead and behind they are n + 3 bytes long. */
    private static String words(String ahead, int n, String behind) {
        StringBuilder text = new StringBuilder();
        for (int i = 0; i < n; i++) {
            text.append(ahead).append((char) ('a' + i / 20)).append((char) ('a' + i % 20)).append(behind).append(" ");
        }
        return text.toString();
    }

    private static void patternLimit() {
        Check.sentence("At most 300 PATTERNS of different letters and .");
        reads(words("", 299, "1"), 299);
        reads(words("", 300, "1"), 300);
        broken(words("", 301, "1"), 1200);
        broken(words("", 300, "1") + " z", 1201);
        broken(words("", 300, "1") + "a", 1200);
        broken(words("", 300, "1") + "aaa", 1200);
        broken(words("", 300, "1") + ".aa", 1200);
        broken(words("", 300, "1") + "aa.", 1200);
        broken(words("", 300, "1") + "aa .aa.", 1203);
        reads(words("", 300, "1") + "a1a ends 11 o3t =aa", 301);
        reads(words("", 150, "1") + words(".", 150, ""), 300);
        broken(words("", 150, "1") + words(".", 151, ""), 150 * 4 + 150 * 4);
        reads(words("", 75, "") + words(".", 75, "") + words("", 75, ".") + words(".", 75, "."), 300);
        reads(words(".abcdefghij", 300, "."), 300);
        parted(words("", 300, "1") + "ends 11", "otz", "ot-z");
    }

    private static void exceptionLimit() {
        Check.sentence("and 60 EXCEPTIONS of different letters");
        reads(words("=", 59, ""), 59);
        reads(words("=", 60, ""), 60);
        broken(words("=", 61, ""), 240);
        broken(words("=", 60, "") + " =z", 241);
        broken(words("=", 60, "") + "=a", 240);
        broken(words("=", 60, "") + "=aaa", 240);
        reads(words("=", 60, "") + "=a-a =c-t ends 11 aa", 61);
        reads(words("=" + "a".repeat(28), 60, ""), 60);
        reads(words("=", 60, "") + words("", 300, ""), 360);
        parted(words("=a-", 60, "") + "ends 11", "act", "a-ct");
        parted(words("=a-", 60, "") + "ends 11", "aaa", "a-aa");
    }

    private static void lastCounts() {
        Check.sentence("of the same the last counts");
        parted("ends 11 a1b a2b", "ab", "ab");
        parted("ends 11 a2b a1b", "ab", "a-b");
        parted("ends 11 a9b ab", "ab", "ab");
        parted("ends 11 1ab a1b", "aab", "aa-b");
        parted("ends 11 =ab =a-b", "ab", "a-b");
        parted("ends 11 =a-b =ab", "ab", "ab");
        parted("ends 11 =a-bc =ab-c", "abc", "ab-c");
        parted(words("", 300, "1") + "ends 11 a1a aa", "aaz", "aaz");
        parted(words("=", 60, "") + "ends 11 =c-t", "ct", "c-t");
    }

    private static void answers() {
        Check.sentence("Answers how many PATTERNS and EXCEPTIONS of different letters");
        reads("ab a1b 2ab ab3", 1);
        reads("ab .ab ab. .ab.", 4);
        reads("=ab =a-b", 1);
        reads("ab =ab", 2);
        reads("ends 11 ends 22", 0);
    }

    private static void capitals() {
        Check.sentence("A .. Z as a .. z");
        parted("ends 11 a1b y1z", "ABYZabyzAbYzaByZ", "A-BY-Za-by-zA-bY-za-By-Z");
        parted("ends 11 =a-z", "AZ", "A-Z");
        parted("ends 11 =a-z", "aZ", "a-Z");
        parted("ends 11 =a-z", "Az", "A-z");
    }

    private static void exceptionsFirst() {
        Check.sentence("of an EXCEPTION those of its -; else: PATTERNS");
        parted("ends 11 1a =aaa", "aaa", "aaa");
        parted("ends 11 1a =aaa", "aa", "a-a");
        parted("ends 11 1a =aaa", "aaaa", "a-a-a-a");
        parted("ends 11 1a =aa-a", "AAA", "AA-A");
        parted("ends 11 =a", "a", "a");
        parted("=ab-cde", "abcde", "ab-cde");
    }

    private static void dotsOfTheRow() {
        Check.sentence("the row with . at both ends");
        parted("ends 11 .a1", "aaa", "a-aa");
        parted("ends 11 .aa1", "aaa", "aa-a");
        parted("ends 11 1a.", "aaa", "aa-a");
        parted("ends 11 1aa.", "aaa", "a-aa");
        parted("ends 11 .a1a.", "aa", "a-a");
        parted("ends 11 .a1a.", "aaa", "aaa");
        parted("ends 11 .a1a.", "a", "a");
        parted("ends 11 .a1b", "abab", "a-bab");
        parted("ends 11 a1b.", "abab", "aba-b");
    }

    private static void whereverTheyStand() {
        Check.sentence("for each PATTERN wherever its letters and . stand");
        parted("ends 11 a1b", "ababab", "a-ba-ba-b");
        parted("ends 11 a1a", "aaaaa", "a-a-a-a-a");
        parted("ends 11 aa1aa", "aaaaaa", "aa-a-a-aa");
        parted("ends 11 a1b b1c", "abc", "a-b-c");
        parted("ends 11 1a", "a".repeat(60), "a-".repeat(59) + "a");
        parted("ends 11 a1b", "ba", "ba");
    }

    private static void greatestAndOdd() {
        Check.sentence("of each place the greatest one counts; odd: a PLACE");
        for (int digit = 0; digit <= 9; digit++) {
            parted("ends 11 a" + digit + "b", "ab", digit % 2 == 1 ? "a-b" : "ab");
            parted("ends 11 a" + digit + "b ab", "ab", "ab");
            for (int other = 0; other <= 9; other++) {
                parted("ends 11 a" + digit + "b a" + other, "ab", Math.max(digit, other) % 2 == 1 ? "a-b" : "ab");
            }
        }
        parted("ends 11 a1b .a2b", "abab", "aba-b");
        parted("ends 11 a1b a2b. a3b.", "abab", "a-ba-b");
    }

    private static void endsAhead() {
        Check.sentence("only those with as many letters ahead as ends says");
        for (int n = 1; n <= 9; n++) {
            parted("ends " + n + "1 1a", "a".repeat(n), "a".repeat(n));
            parted("ends " + n + "1 1a", "a".repeat(n + 1), "a".repeat(n) + "-a");
            parted("ends " + n + "1 1a", "a".repeat(n + 2), "a".repeat(n) + "-a-a");
            parted("ends " + n + "1 =" + "a-".repeat(n + 1) + "a", "a".repeat(n + 2), "a".repeat(n) + "-a-a");
        }
    }

    private static void endsBehind() {
        Check.sentence("only those with as many letters behind as ends says");
        for (int n = 1; n <= 9; n++) {
            parted("ends 1" + n + " 1a", "a".repeat(n), "a".repeat(n));
            parted("ends 1" + n + " 1a", "a".repeat(n + 1), "a-" + "a".repeat(n));
            parted("ends 1" + n + " 1a", "a".repeat(n + 2), "a-a-" + "a".repeat(n));
            parted("ends 1" + n + " =" + "a-".repeat(n + 1) + "a", "a".repeat(n + 2), "a-a-" + "a".repeat(n));
        }
        parted("ends 99 1a", "a".repeat(17), "a".repeat(17));
        parted("ends 99 1a", "a".repeat(18), "a".repeat(9) + "-" + "a".repeat(9));
    }

    private static void nothingStays() {
        Check.sentence("THE TAPE is HYPHENS likewise (nothing of one before stays)");
        for (String next : new String[] {"", "q1", "=q-q", "ends 11"}) {
            LineSetter x = new LineSetter();
            Check.hyphens(x, "ends 11 a1b =c-d");
            Check.hyphens(x, "ends 11 e1f =g-h");
            Check.hyphens(x, next);
            Check.same("patterns of before", Check.parts(x, "ababefefab"), "ababefefab");
            Check.same("exceptions of before", Check.parts(x, "cd"), "cd");
            Check.same("exceptions of before", Check.parts(x, "gh"), "gh");
        }
        LineSetter x = new LineSetter();
        Check.hyphens(x, words("", 300, "1") + words("=", 60, ""));
        Check.hyphens(x, words("", 300, "1") + words("=", 60, ""));
        Check.same("others behind full ones", Check.hyphens(x, "zz =zz"), "2 -1");
    }

    private static void brokenChangesNothing() {
        Check.sentence("BROKEN: UnsupportedOperationException (so for hyphens)");
        String[] texts = {"?", "a1b =f-f ends 11 ends", "ends 0", words("", 301, "1"), words("=", 61, ""), "ends 11 1a 1b 1f 1i =abab ="};
        int[] places = {0, 21, 5, 1200, 240, 26};
        for (int i = 0; i < texts.length; i++) {
            Twins.refused("hyphens " + texts[i], Twins::busy, texts[i], LineSetter::hyphens, Check.UOE, places[i]);
        }
    }

    private static void partsLength() {
        Check.sentence("OUT is THE TAPE, one byte at least, 60 at most");
        parted("ends 11 1a", "a", "a");
        parted("ends 11 1a", "aa", "a-a");
        parted("ends 11 1a", "a".repeat(59), "a-".repeat(58) + "a");
        parted("ends 11 1a", "a".repeat(60), "a-".repeat(59) + "a");
        LineSetter x = new LineSetter();
        Check.hyphens(x, "ends 11 1a");
        Check.feed(x, "a".repeat(60));
        Check.answers("parts of 60 bytes", x::parts, 119);
        Twins.refused("parts of nothing", Twins::busy, "", LineSetter::parts, Check.IAE, Twins.PLACE);
        Twins.refused("parts of 61 bytes", Twins::busy, "a".repeat(61), LineSetter::parts, Check.IAE, Twins.PLACE);
        Twins.refused("parts of 4000 bytes", Twins::busy, "a".repeat(4000), LineSetter::parts, Check.IAE, Twins.PLACE);
    }

    private static void partsLetters() {
        Check.sentence("of letters (else IllegalArgumentException)");
        for (char b : new char[] {'a', 'z', 'A', 'Z'}) {
            parted("", "x" + b + "x", "x" + b + "x");
        }
        for (int b : new int[] {0, 10, 32, 45, 46, 48, 57, 64, 91, 96, 123, 127, 128, 193, 225, 255}) {
            for (String text : new String[] {"" + (char) b, "ab" + (char) b, (char) b + "ab", "a".repeat(59) + (char) b}) {
                Twins.refused("parts of byte " + b, Twins::busy, text, LineSetter::parts, Check.IAE, Twins.PLACE);
            }
        }
    }

    private static void partsOut() {
        Check.sentence("with a - at each of its PLACES. Answers how many bytes");
        LineSetter x = new LineSetter();
        Check.hyphens(x, "ends 12 1a =b-b-b-b");
        String[][] due = {{"xaxaxa", "x-ax-axa"}, {"bbbb", "b-b-bb"}, {"BbBb", "B-b-Bb"}, {"q", "q"}};
        for (String[] pair : due) {
            Check.feed(x, pair[0]);
            Check.answers("parts of " + pair[0], x::parts, pair[1].length());
            Check.same("OUT", Check.out(x), pair[1]);
            Check.answers("its length", () -> x.count(1), pair[1].length());
        }
    }
}
