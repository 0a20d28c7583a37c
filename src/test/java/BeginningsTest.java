/** Promise 8: how many beginnings of the word fit, from none of its bytes to all. */
public final class BeginningsTest {
    public static void main(String[] args) {
        Sentences.under("Promise 8: beginnings");
        ordinaryOnes();
        itCountsWhatFits();
        noneOfItsBytes();
        allOfItsBytes();
        emptyOnes();
        fullOnes();
        noneFits();
        itChangesNothing();
        Sentences.finish();
    }

    private static void ordinaryOnes() {
        Sentences.quote("How many beginnings of the word (from none of its bytes to all) fit.");
        look("*b*", "aabab", 3);
        look("*b", "aabab", 2);
        look("a*", "aabab", 5);
        look("?", "aabab", 1);
        look("??*", "aabab", 4);
        look("[^b]*a", "aabab", 2);
        look("aab", "aabab", 1);
        look("?*", "\0\u00ff\u0080", 3);
        look("*\u00ff", "\u00ff\u007f\0\u00ff", 2);
        look("*[\u0080-\u00ff]", "\u0080\u007f\0\u00ffa", 2);
    }

    private static void itCountsWhatFits() {
        Sentences.quote("How many beginnings of the word");
        String word = "abacabadab";
        for (String pattern : new String[] {"*a", "a*", "?b?", "[^a]*", "*c*", "", "*", "ab*[b-d]*", "*[^b]?"}) {
            int want = 0;
            for (int n = 0; n <= word.length(); n++) {
                want += Checks.with(pattern, word.substring(0, n)).fits() ? 1 : 0;
            }
            look(pattern, word, want);
        }
    }

    private static void noneOfItsBytes() {
        Sentences.quote("from none of its bytes");
        look("", "abc", 1);
        look("*", "abc", 4);
        look("*?", "abc", 3);
        look("*x", "abcx", 1);
        look("", "a".repeat(400), 1);
    }

    private static void allOfItsBytes() {
        Sentences.quote("to all");
        look("abc", "abc", 1);
        look("abcd", "abc", 0);
        look("*c", "abc", 1);
        look("???", "abc", 1);
        look("?".repeat(400), "a".repeat(400), 1);
        look("*b", "a".repeat(399) + "b", 1);
        look("a".repeat(399) + "b", "a".repeat(399) + "b", 1);
    }

    private static void emptyOnes() {
        Sentences.quote("from none of its bytes to all");
        look("", "", 1);
        look("*", "", 1);
        look("**", "", 1);
        look("?", "", 0);
        look("a", "", 0);
        look("[", "", 0);
        look("[^", "", 0);
    }

    private static void fullOnes() {
        Sentences.quote("from none of its bytes to all");
        look("*", "a".repeat(400), 401);
        look("*".repeat(400), "a".repeat(400), 401);
        look("?*", "a".repeat(400), 400);
        look("*a".repeat(200), "a".repeat(400), 201);
        look("?".repeat(399) + "*", "a".repeat(400), 2);
    }

    private static void noneFits() {
        Sentences.quote("How many beginnings of the word");
        look("ab", "aabab", 0);
        look("aababc", "aabab", 0);
        look("[", "abc", 0);
        look("[]", "abc", 0);
        look("*b", "a".repeat(400), 0);
        // A part that is no beginning does not count.
        look("b", "ab", 0);
        look("b*", "abb", 0);
    }

    private static void itChangesNothing() {
        Sentences.quote("How many beginnings of the word");
        WildCards x = Checks.with("ab*", "abab");
        Checks.due("beginnings()", x.beginnings(), 3);
        Checks.due("beginnings() again", x.beginnings(), 3);
        Checks.due("fits() behind it", x.fits(), true);
        Checks.due("end(1) behind it", x.end(1), false);
        x.feed(0, 0, 0, 0, 0);
        x.beginnings();
        Checks.due("word() of the tape fed before it", x.word(), 20);
        Checks.due("beginnings() of that", x.beginnings(), 0);
    }

    private static void look(String pattern, String word, int want) {
        Checks.due("beginnings() of \"" + word + "\" to \"" + pattern + "\"",
                Checks.with(pattern, word).beginnings(), want);
    }
}
