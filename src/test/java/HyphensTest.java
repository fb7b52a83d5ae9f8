/** Promises 5, 6 and 16: hyphens, place, parts. */
public final class HyphensTest {
    public static void main(String[] args) {
        tells();
        patterns();
        exceptions();
        ends();
        replaces();
        breaks();
        limits();
        wrongParts();
        Check.done("HyphensTest");
    }

    private static void tells() {
        LineSetter x = new LineSetter();
        Check.same("nothing", Check.hyphens(x, ""), "0 -1");
        Check.same("blanks", Check.hyphens(x, "\n  "), "0 -1");
        Check.same("one of each", Check.hyphens(x, "a1b =a-b ends 11"), "2 -1");
        Check.same("the dots make patterns different", Check.hyphens(x, "ab .ab ab. .ab."), "4 -1");
        Check.same("the digits do not", Check.hyphens(x, "ab a1b 1ab ab9 1a2b3"), "1 -1");
        Check.same("nor do the - of exceptions", Check.hyphens(x, "=ab =a-b ab"), "2 -1");
    }

    private static void parted(String hyphens, String letters, String due) {
        LineSetter x = new LineSetter();
        Check.same("hyphens " + hyphens, Check.hyphens(x, hyphens).endsWith(" -1"), true);
        Check.same("parts of " + letters + " by " + hyphens, Check.parts(x, letters), due);
    }

    private static void patterns() {
        parted("ends 11", "aaaa", "aaaa");
        parted("ends 11 a1b", "xabxabx", "xa-bxa-bx");
        parted("ends 11 a2b", "xab", "xab");
        parted("ends 11 a0b", "xab", "xab");
        parted("ends 11 a1b xa2b", "xabab", "xaba-b");
        parted("ends 11 a1b xa2b xab3 yxa5b", "yxab", "yxa-b");
        parted("ends 11 a9b xa8b", "xab", "xa-b");
        parted("ends 11 1a", "aaa", "a-a-a");
        parted("ends 11 a1", "aaa", "a-a-a");
        parted("ends 11 a1a", "aaaa", "a-a-a-a");
        parted("ends 11 .a1", "aaa", "a-aa");
        parted("ends 11 1a.", "aaa", "aa-a");
        parted("ends 11 .a1a.", "aa", "a-a");
        parted("ends 11 .a1a.", "aaa", "aaa");
        parted("ends 11 .1a a1.", "aa", "aa");
        parted("ends 11 a1b a2b", "ab", "ab");
        parted("ends 11 a2b a1b", "ab", "a-b");
        parted("ends 11 a1b", "ABaBAb", "A-Ba-BA-b");
        parted("ends 11 y1z", "YZyZ", "Y-Zy-Z");
        parted("ends 11 a1b2c3d4e5f6g7h8i9j0k1l", "abcdefghijkl", "a-bc-de-fg-hi-jk-l");
        parted("ends 11 .1a1b1c1d1e1f1g1h1i1j1k1l1.", "abcdefghijkl", "a-b-c-d-e-f-g-h-i-j-k-l");
        parted("ends 11 abcdefghijkl1", "abcdefghijklm", "abcdefghijkl-m");
        parted("ends 11 1a", "a".repeat(60), "a" + "-a".repeat(59));
    }

    private static void exceptions() {
        parted("ends 11 =as-so-ciate", "associate", "as-so-ciate");
        parted("ends 11 =as-so-ciate", "Associate", "As-so-ciate");
        parted("ends 11 =as-so-ciate 1s", "associates", "a-s-sociate-s");
        parted("ends 11 1a =aaa", "aaa", "aaa");
        parted("ends 11 1a =aaa", "aaaa", "a-a-a-a");
        parted("ends 11 =a-aa =aa-a", "aaa", "aa-a");
        parted("ends 11 =" + "a-".repeat(29) + "a", "a".repeat(30), "a-".repeat(29) + "a");
        parted("=a-b-c-d-e-f", "abcdef", "ab-c-def");
    }

    private static void ends() {
        parted("1a", "aaaaaa", "aa-a-aaa");
        parted("1a", "aaaa", "aaaa");
        parted("1a", "aaaaa", "aa-aaa");
        parted("1a ends 12", "aaaa", "a-a-aa");
        parted("ends 12 1a ends 31", "aaaaa", "aaa-a-a");
        parted("ends 99 1a", "a".repeat(18), "a".repeat(9) + "-" + "a".repeat(9));
        parted("ends 99 1a", "a".repeat(17), "a".repeat(17));
        LineSetter x = new LineSetter();
        Check.hyphens(x, "ends 11 1a");
        Check.hyphens(x, "1a");
        Check.same("the ends of hyphens before do not stay", Check.parts(x, "aaaaa"), "aa-aaa");
    }

    private static void replaces() {
        LineSetter x = new LineSetter();
        Check.hyphens(x, "ends 11 a1b =c-d");
        Check.same("broken hyphens", Check.hyphens(x, "a2b =cd ends"), "throws.UnsupportedOperationException 12");
        Check.same("broken hyphens change no pattern", Check.parts(x, "ab"), "a-b");
        Check.same("nor exception", Check.parts(x, "cd"), "c-d");
        Check.same("new hyphens", Check.hyphens(x, "ends 11 e1f"), "1 -1");
        Check.same("no pattern of those before stays", Check.parts(x, "abef"), "abe-f");
        Check.same("no exception of those before stays", Check.parts(x, "cd"), "cd");
        Check.hyphens(x, "ends 11 a1a");
        Check.same("nor of those before them", Check.parts(x, "abefaa"), "abefa-a");
    }

    private static void broken(String text, int place) {
        LineSetter x = new LineSetter();
        Check.same("hyphens " + text.replace('\n', '/'), Check.hyphens(x, text), "throws.UnsupportedOperationException " + place);
    }

    private static void breaks() {
        broken("ends", 4);
        broken("ends \n", 6);
        broken("ends a1b", 5);
        broken("ends 1", 5);
        broken("ends 123", 5);
        broken("ends 01", 5);
        broken("ends 10", 5);
        broken("ends 1 1", 5);
        broken("ends 1:", 5);
        broken("ends :1", 5);
        broken("ends 1/", 5);
        broken("ends /1", 5);
        broken("ends ends", 5);
        broken("ends \0\0", 5);
        broken("ab 11", 3);
        broken("ab .", 3);
        broken("ab ..", 3);
        broken("ab .1.", 3);
        broken("ab 1.a", 3);
        broken("ab a.1", 3);
        broken("ab a.b", 3);
        broken("ab ..a", 3);
        broken("ab a..", 3);
        broken("ab a12b", 3);
        broken("ab a00b", 3);
        broken("ab abcdefghijklm", 3);
        broken("ab A1b", 3);
        broken("ab a-b", 3);
        broken("ab ab\tcd", 3);
        broken("ab ab\u007f", 3);
        broken("ab \u00e4", 3);
        broken("ab =", 3);
        broken("ab =-a", 3);
        broken("ab =a-", 3);
        broken("ab =a--b", 3);
        broken("ab =a1b", 3);
        broken("ab =A", 3);
        broken("ab =.a", 3);
        broken("ab ==a", 3);
        broken("ab =-", 3);
        broken("ab =" + "a".repeat(31), 3);
        LineSetter x = new LineSetter();
        Check.same("30 letters", Check.hyphens(x, "=" + "a".repeat(30)), "1 -1");
        Check.same("12 letters and all else", Check.hyphens(x, ".1a2a3a4a5a6a7a8a9a0a1a2a3."), "1 -1");
        Check.same("ends as a longer word is a pattern", Check.hyphens(x, "endss .ends ends1"), "3 -1");
    }

    private static String some(String ahead, int n, String behind) {
        StringBuilder text = new StringBuilder();
        for (int i = 0; i < n; i++) {
            text.append(ahead).append((char) ('a' + i / 20)).append((char) ('a' + i % 20)).append(behind).append(" ");
        }
        return text.toString();
    }

    private static void limits() {
        LineSetter x = new LineSetter();
        String patterns = some("", 300, "1");
        Check.same("300 patterns", Check.hyphens(x, patterns), "300 -1");
        Check.same("one of them again", Check.hyphens(x, patterns + "aa ends 11"), "300 -1");
        Check.same("the last counts", Check.parts(x, "aaab"), "aaab");
        LineSetter y = new LineSetter();
        Check.same("301 patterns", Check.hyphens(y, patterns + "zz"), "throws.UnsupportedOperationException " + patterns.length());
        LineSetter z = new LineSetter();
        Check.same("the beginning of another is one too much, too", Check.hyphens(z, patterns + "a"),
                "throws.UnsupportedOperationException " + patterns.length());
        String exceptions = some("=", 60, "");
        Check.same("60 exceptions", Check.hyphens(z, exceptions), "60 -1");
        Check.same("60 and one again", Check.hyphens(z, exceptions + "ends 11 =a-a"), "60 -1");
        Check.same("the last exception counts", Check.parts(z, "aa"), "a-a");
        Check.same("61 exceptions", Check.hyphens(z, exceptions + "=zz"), "throws.UnsupportedOperationException " + exceptions.length());
        LineSetter w = new LineSetter();
        Check.same("300 and 60", Check.hyphens(w, some(".", 300, ".") + exceptions), "360 -1");
        LineSetter v = new LineSetter();
        Check.same("300 of twelve letters and dots", Check.hyphens(v, some(".aaaaaaaaaa", 300, ".")), "300 -1");
    }

    private static void wrongParts() {
        LineSetter x = new LineSetter();
        Check.hyphens(x, "ends 11 1a");
        Check.parts(x, "xax");
        Check.refuses("parts of nothing", x::parts, Check.IAE);
        for (String text : new String[] {"a-b", "a b", "a1", "\u00e4", "@a", "a[", "`", "{", "a".repeat(61)}) {
            Check.refuses("parts of " + text, () -> Check.parts(x, text).length(), Check.IAE);
        }
        Check.same("refused parts leave out", Check.out(x), "x-ax");
        Check.answers("and the place", x::place, -1);
        Check.feed(x, "azAZ");
        Check.answers("parts answers the length", x::parts, 5);
    }
}
