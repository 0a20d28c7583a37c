/** Promise 6: fits tells whether the word fits the pattern. TermsTest has what that is. */
public final class FitsTest {
    private static final String WHETHER = "Whether the word fits the pattern.";

    public static void main(String[] args) {
        Sentences.under("Promise 6: fits");
        ordinaryOnes();
        emptyOnes();
        fullOnes();
        theWholeWord();
        itChangesNothing();
        Sentences.finish();
    }

    private static void ordinaryOnes() {
        Sentences.quote(WHETHER);
        Checks.fits("a*c", "abbc", true);
        Checks.fits("a*c", "abcd", false);
        Checks.fits("[a-c]?", "bz", true);
        Checks.fits("[a-c]?", "zb", false);
        Checks.fits("[^a-c]\\?", "z?", true);
        Checks.fits("[^a-c]\\?", "zz", false);
    }

    private static void emptyOnes() {
        Sentences.quote(WHETHER);
        Checks.fits("", "", true);
        Checks.fits("", "a", false);
        Checks.fits("", "a".repeat(400), false);
        for (String pattern : new String[] {"*", "**", "*".repeat(400)}) {
            Checks.fits(pattern, "", true);
        }
        for (String pattern : new String[] {"a", "?", "*?", "[", "[]", "[^", "[^]", "\\", "\\*", "a".repeat(400)}) {
            Checks.fits(pattern, "", false);
        }
    }

    private static void fullOnes() {
        Sentences.quote(WHETHER);
        String word = "abcd".repeat(100);
        for (String pattern : new String[] {word, "*", "?".repeat(400), "*d", "a*", "*" + word.substring(1),
            word.substring(0, 399) + "?", "a*d".repeat(100), "*[a-d]".repeat(50)}) {
            Checks.fits(pattern, word, true);
        }
        for (String pattern : new String[] {word.substring(1), word.substring(0, 399), "?".repeat(399), "*c", "b*",
            "*[^d]", "[^a]" + word.substring(1, 390) + "*", "*[^a-d]*"}) {
            Checks.fits(pattern, word, false);
        }
    }

    private static void theWholeWord() {
        Sentences.quote(WHETHER);
        Checks.fits("ab", "abc", false);
        Checks.fits("bc", "abc", false);
        Checks.fits("b", "abc", false);
        Checks.fits("*b", "abc", false);
        Checks.fits("b*", "abc", false);
        Checks.fits("*b*", "abc", true);
    }

    private static void itChangesNothing() {
        Sentences.quote(WHETHER);
        WildCards x = Checks.with("ab*", "abab");
        x.feed(0x63636363, 0, 0, 0, 0);
        for (int i = 0; i < 5; i++) {
            Checks.due("fits()", x.fits(), true);
            Checks.due("beginnings() behind it", x.beginnings(), 3);
            Checks.due("fitsPart(2, 2) behind it", x.fitsPart(2, 2), true);
            Checks.due("fitsPart(1, 2) behind it", x.fitsPart(1, 2), false);
        }
        Checks.due("word() of the tape fed before it", x.word(), 20);
        Checks.due("fits() of that", x.fits(), false);
    }
}
