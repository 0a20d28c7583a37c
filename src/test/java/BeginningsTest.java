/** Promise 8: how many beginnings of the word fit, from none of its bytes to all. */
public final class BeginningsTest {
    public static void main(String[] args) {
        ordinaryOnes();
        theEdges();
        itChangesNothing();
        Checks.finish();
    }

    private static void ordinaryOnes() {
        look("*b*", "aabab", 3);
        look("*b", "aabab", 2);
        look("a*", "aabab", 5);
        look("*", "aabab", 6);
        look("?", "aabab", 1);
        look("??*", "aabab", 4);
        look("[^b]*a", "aabab", 2);
        look("aab", "aabab", 1);
        look("ab", "aabab", 0);
        look("*?", "aabab", 5);
        look("aababc", "aabab", 0);
    }

    private static void theEdges() {
        look("", "", 1);
        look("", "abc", 1);
        look("*", "", 1);
        look("?", "", 0);
        look("a", "", 0);
        look("[", "abc", 0);
        look("[^", "abc", 1);
        look("*", "a".repeat(400), 401);
        look("*".repeat(400), "a".repeat(400), 401);
        look("?".repeat(400), "a".repeat(400), 1);
        look("*a".repeat(200), "a".repeat(400), 201);
        look("?*", "\0\u00ff\u0080", 3);
        look("*\u00ff", "\u00ff\u007f\0\u00ff", 2);
        look("*[\u0080-\u00ff]", "\u0080\u007f\0\u00ffa", 2);
    }

    private static void itChangesNothing() {
        WildCards x = Checks.with("ab*", "abab");
        Checks.due("beginnings()", x.beginnings(), 3);
        Checks.due("beginnings() again", x.beginnings(), 3);
        Checks.due("fits() behind it", x.fits(), true);
        Checks.due("end(1) behind it", x.end(1), false);
        x.feed(0, 0, 0, 0, 0);
        x.beginnings();
        Checks.due("word() of the tape fed before it", x.word(), 20);
    }

    private static void look(String pattern, String word, int want) {
        Checks.due("beginnings() of \"" + word + "\" to \"" + pattern + "\"",
                Checks.with(pattern, word).beginnings(), want);
    }
}
