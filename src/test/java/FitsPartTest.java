/** Promise 7: fitsPart looks at some of the word's bytes, and is false when there are none such. */
public final class FitsPartTest {
    public static void main(String[] args) {
        ordinaryParts();
        partsOfNoBytes();
        partsThatAreNotThere();
        itAgreesWithFits();
        itChangesNothing();
        Checks.finish();
    }

    private static void ordinaryParts() {
        WildCards x = Checks.with("a?c", "xabcxadc");
        Checks.due("fitsPart(1, 3)", x.fitsPart(1, 3), true);
        Checks.due("fitsPart(5, 3)", x.fitsPart(5, 3), true);
        Checks.due("fitsPart(0, 3)", x.fitsPart(0, 3), false);
        Checks.due("fitsPart(1, 2)", x.fitsPart(1, 2), false);
        Checks.due("fitsPart(1, 4)", x.fitsPart(1, 4), false);
        Checks.due("fitsPart(0, 8)", x.fitsPart(0, 8), false);
        Checks.due("fitsPart(5, 4)", x.fitsPart(5, 4), false);
    }

    private static void partsOfNoBytes() {
        WildCards x = Checks.with("*", "abc");
        for (int from = 0; from <= 3; from++) {
            Checks.due("fitsPart(" + from + ", 0) to *", x.fitsPart(from, 0), true);
        }
        Checks.due("fitsPart(4, 0) to *", x.fitsPart(4, 0), false);
        Checks.due("fitsPart(-1, 0) to *", x.fitsPart(-1, 0), false);
        Checks.setPattern(x, "?");
        Checks.due("fitsPart(1, 0) to ?", x.fitsPart(1, 0), false);
        x.pattern();
        Checks.due("fitsPart(3, 0) to nothing", x.fitsPart(3, 0), true);
        Checks.due("fitsPart(2, 1) to nothing", x.fitsPart(2, 1), false);
    }

    private static void partsThatAreNotThere() {
        WildCards x = Checks.with("*", "abcdefgh");
        int[] odd = {Integer.MIN_VALUE, -400, -2, -1, 9, 20, 400, 401, Integer.MAX_VALUE};
        for (int a : odd) {
            for (int b : odd) {
                Checks.due("fitsPart(" + a + ", " + b + ")", x.fitsPart(a, b), false);
            }
            for (int b = 0; b <= 8; b++) {
                Checks.due("fitsPart(" + a + ", " + b + ")", x.fitsPart(a, b), false);
                Checks.due("fitsPart(" + b + ", " + a + ")", x.fitsPart(b, a), false);
            }
        }
        Checks.due("fitsPart(8, 1)", x.fitsPart(8, 1), false);
        Checks.due("fitsPart(1, 8)", x.fitsPart(1, 8), false);
        Checks.due("fitsPart(0, 9)", x.fitsPart(0, 9), false);
        Checks.due("fitsPart(0, 8)", x.fitsPart(0, 8), true);
        // The row behind the word may hold bytes of a longer word before.
        Checks.setWord(x, "abc");
        Checks.due("fitsPart(0, 8) of a shorter word", x.fitsPart(0, 8), false);
        Checks.due("fitsPart(3, 1) of a shorter word", x.fitsPart(3, 1), false);
    }

    private static void itAgreesWithFits() {
        String word = "abacabadab";
        for (String pattern : new String[] {"*a", "a*", "?b?", "[^a]*", "*c*", "", "ab*[b-d]*"}) {
            WildCards x = Checks.with(pattern, word);
            for (int from = 0; from <= word.length(); from++) {
                for (int n = 0; from + n <= word.length(); n++) {
                    boolean want = Checks.with(pattern, word.substring(from, from + n)).fits();
                    Checks.due("fitsPart(" + from + ", " + n + ") to " + pattern, x.fitsPart(from, n), want);
                }
            }
        }
    }

    private static void itChangesNothing() {
        WildCards x = Checks.with("abc", "abc");
        x.fitsPart(0, 1);
        x.fitsPart(7, -7);
        Checks.due("fits() behind fitsPart", x.fits(), true);
        Checks.due("beginnings() behind fitsPart", x.beginnings(), 1);
        Checks.due("fitsPart(0, 3) behind all", x.fitsPart(0, 3), true);
        Checks.due("end(1) behind all", x.end(1), false);
    }
}
