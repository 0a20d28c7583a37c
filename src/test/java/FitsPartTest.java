/** Promise 7: fitsPart looks at some of the word's bytes, and is false when there are none such. */
public final class FitsPartTest {
    private static final int MAX = Integer.MAX_VALUE;
    private static final int MIN = Integer.MIN_VALUE;

    public static void main(String[] args) {
        Sentences.under("Promise 7: fitsPart");
        ordinaryParts();
        partsOfNoBytes();
        theWholeAndTheEnds();
        itAgreesWithFits();
        itChangesNothing();
        tooManyBytes();
        placesBehindTheWord();
        belowZero();
        sumsThatWrapAround();
        noneOfALongerWordBefore();
        Sentences.finish();
    }

    private static void ordinaryParts() {
        Sentences.quote("Whether the word's bytes from a place on, so many, fit the pattern");
        WildCards x = Checks.with("a?c", "xabcxadc");
        part(x, 1, 3, true);
        part(x, 5, 3, true);
        part(x, 0, 3, false);
        part(x, 2, 3, false);
        part(x, 1, 2, false);
        part(x, 1, 4, false);
        part(x, 0, 8, false);
    }

    private static void partsOfNoBytes() {
        Sentences.quote("Whether the word's bytes from a place on, so many, fit the pattern");
        WildCards x = Checks.with("*", "abc");
        for (int from = 0; from <= 3; from++) {
            part(x, from, 0, true);
        }
        Checks.setPattern(x, "?");
        for (int from = 0; from <= 3; from++) {
            part(x, from, 0, false);
        }
        x.pattern();
        for (int from = 0; from <= 3; from++) {
            part(x, from, 0, true);
            part(x, from, 1, false);
        }
        x.word();
        part(x, 0, 0, true);
    }

    private static void theWholeAndTheEnds() {
        Sentences.quote("Whether the word's bytes from a place on, so many, fit the pattern");
        WildCards x = Checks.with("a*z", "a" + "b".repeat(398) + "z");
        part(x, 0, 400, true);
        part(x, 0, 399, false);
        part(x, 1, 399, false);
        Checks.setPattern(x, "z");
        part(x, 399, 1, true);
        part(x, 398, 1, false);
        Checks.setPattern(x, "a");
        part(x, 0, 1, true);
        part(x, 1, 1, false);
        Checks.setPattern(x, "*");
        for (int n = 0; n <= 400; n += 50) {
            part(x, 0, n, true);
            part(x, 400 - n, n, true);
        }
    }

    private static void itAgreesWithFits() {
        Sentences.quote("Whether the word's bytes from a place on, so many, fit the pattern");
        String word = "abacabadab";
        for (String pattern : new String[] {"*a", "a*", "?b?", "[^a]*", "*c*", "", "ab*[b-d]*"}) {
            WildCards x = Checks.with(pattern, word);
            for (int from = 0; from <= word.length(); from++) {
                for (int n = 0; from + n <= word.length(); n++) {
                    part(x, from, n, Checks.with(pattern, word.substring(from, from + n)).fits());
                }
            }
        }
    }

    private static void itChangesNothing() {
        Sentences.quote("Whether the word's bytes from a place on, so many, fit the pattern");
        WildCards x = Checks.with("abc", "abc");
        x.feed(0, 0, 0, 0, 0);
        x.fitsPart(0, 1);
        x.fitsPart(7, -7);
        Checks.due("fits() behind fitsPart", x.fits(), true);
        Checks.due("beginnings() behind fitsPart", x.beginnings(), 1);
        part(x, 0, 3, true);
        Checks.due("word() behind all", x.word(), 20);
    }

    private static void tooManyBytes() {
        Sentences.quote("false also when it has no such bytes.");
        WildCards x = Checks.with("*", "abcdefgh");
        for (int from = 0; from <= 8; from++) {
            part(x, from, 8 - from, true);
            part(x, from, 9 - from, false);
            part(x, from, 400, false);
            part(x, from, MAX, false);
        }
        x = Checks.with("*", "a".repeat(400));
        for (int from = 0; from <= 400; from += 100) {
            part(x, from, 400 - from, true);
            part(x, from, 401 - from, false);
            part(x, from, 401, false);
            part(x, from, MAX, false);
        }
    }

    private static void placesBehindTheWord() {
        Sentences.quote("false also when it has no such bytes.");
        WildCards x = Checks.with("*", "abcdefgh");
        WildCards full = Checks.with("*", "a".repeat(400));
        WildCards empty = Checks.with("*", "");
        for (int n : new int[] {0, 1, 2, 8, 400, 401, MAX}) {
            for (int from : new int[] {9, 10, 399, 400, 401, MAX - 1, MAX}) {
                part(x, from, n, false);
            }
            for (int from : new int[] {401, 402, 1000, MAX - 1, MAX}) {
                part(full, from, n, false);
            }
            for (int from : new int[] {1, 2, 400, MAX}) {
                part(empty, from, n, false);
            }
        }
    }

    private static void belowZero() {
        Sentences.quote("false also when it has no such bytes.");
        WildCards x = Checks.with("*", "abcdefgh");
        int[] below = {-1, -2, -8, -9, -400, -401, MIN + 1, MIN};
        for (int a : below) {
            for (int b : below) {
                part(x, a, b, false);
            }
            for (int b : new int[] {0, 1, 7, 8, 9, 400, MAX}) {
                part(x, a, b, false);
                part(x, b, a, false);
            }
        }
        for (int a = 1; a <= 8; a++) {
            part(x, a, -a, false);
            part(x, -a, a, false);
            part(x, -a, 8, false);
        }
    }

    /** With int's wrap-around each of these sums would lie between 0 and the word's length. */
    private static void sumsThatWrapAround() {
        Sentences.quote("false also when it has no such bytes.");
        WildCards x = Checks.with("*", "a".repeat(400));
        part(x, MAX, MAX, false);
        part(x, 1, MAX, false);
        part(x, 400, MAX, false);
        part(x, MAX, 1, false);
        part(x, MAX, 400, false);
        part(x, MIN, MIN, false);
        part(x, MIN, MAX, false);
        part(x, MAX, MIN, false);
        for (int sum = 0; sum <= 400; sum += 100) {
            part(x, MIN, sum - MIN, false);
            part(x, sum - MIN, MIN, false);
            part(x, MAX, sum - MAX, false);
            part(x, sum - MAX, MAX, false);
            part(x, -1, sum + 1, false);
            part(x, sum + 1, -1, false);
            part(x, 1 << 30, sum - (1 << 30), false);
        }
    }

    private static void noneOfALongerWordBefore() {
        Sentences.quote("false also when it has no such bytes.");
        WildCards x = Checks.with("*", "abcdefgh");
        Checks.setWord(x, "abc");
        part(x, 0, 3, true);
        part(x, 0, 4, false);
        part(x, 0, 8, false);
        part(x, 3, 1, false);
        part(x, 4, 0, false);
        x.word();
        part(x, 0, 1, false);
        part(x, 1, 0, false);
        // Bytes on the tape are no word's yet.
        x.feed(0, 0, 0, 0, 0);
        part(x, 0, 1, false);
    }

    private static void part(WildCards x, int from, int n, boolean want) {
        Checks.due("fitsPart(" + from + ", " + n + ")", x.fitsPart(from, n), want);
    }
}
