/** How many calls an object is made for: all of 512 answer as promised, and later ones end. */
public final class CallsTest {
    private static final int CALLS = 512;
    private static final int ROUND = 9;

    public static void main(String[] args) {
        Sentences.under("What it is");
        patternsAndWords();
        theLastCallOfEachKind();
        oneKindAllTheTime();
        laterCalls();
        Sentences.finish();
    }

    private static void patternsAndWords() {
        Sentences.quote("Patterns of bytes and the words that fit them.");
        Checks.fits("a*[0-9]", "area 51", true);
        Checks.fits("a*[0-9]", "area x", false);
    }

    /** Runs that end, with their last call, at each place of a round. */
    private static void theLastCallOfEachKind() {
        Sentences.quote("An object is used for at most 512 calls after it has been made");
        for (int idle = 0; idle < ROUND; idle++) {
            WildCards x = new WildCards();
            for (int i = 0; i < idle; i++) {
                Checks.due("end(0)", x.end(0), true);
            }
            for (int i = 0; i < CALLS - idle; i++) {
                callOfARound(x, i % ROUND, i / ROUND % 2 == 0, "call " + (idle + i + 1));
            }
        }
    }

    /** With a byte 0 behind each: the pattern a*b and the word acb in even rounds, a*c and ac in odd. */
    private static void callOfARound(WildCards x, int place, boolean even, String name) {
        switch (place) {
            case 0 -> Checks.due(name + ", feed", x.feed(even ? 0x612a6200 : 0x612a6300, 0, 0, 0, 0), true);
            case 1, 4 -> Checks.due(name + ", end(4)", x.end(4), true);
            case 2 -> Checks.due(name + ", pattern()", x.pattern(), 4);
            case 3 -> Checks.due(name + ", feed", x.feed(even ? 0x61636200 : 0x61630000, 0, 0, 0, 0), true);
            case 5 -> Checks.due(name + ", word()", x.word(), 4);
            case 6 -> Checks.due(name + ", fits()", x.fits(), even);
            case 7 -> Checks.due(name + ", fitsPart(0, 3)", x.fitsPart(0, 3), !even);
            default -> Checks.due(name + ", beginnings()", x.beginnings(), 1);
        }
    }

    private static void oneKindAllTheTime() {
        Sentences.quote("An object is used for at most 512 calls after it has been made");
        WildCards fed = new WildCards();
        WildCards taken = new WildCards();
        for (int i = 1; i <= CALLS; i++) {
            Checks.due("feed " + i, fed.feed(i, i, i, i, i), i <= 20);
            Checks.due("pattern() " + i, taken.pattern(), 0);
        }
        // Making pattern and word took six calls.
        WildCards asked = Checks.with("a?*", "abc");
        for (int i = 1; i <= CALLS - 6; i++) {
            Checks.due("fits() " + i, asked.fits(), true);
        }
        WildCards counted = Checks.with("a?*", "abc");
        for (int i = 1; i <= CALLS - 6; i++) {
            Checks.due("beginnings() " + i, counted.beginnings(), 2);
        }
    }

    /** LANGUAGE.md, rule 7: in any state a call ends and throws nothing. */
    private static void laterCalls() {
        Sentences.quote("what later calls answer is free.");
        WildCards x = new WildCards();
        int[] odd = {0, 1, 20, 400, 401, -1, Integer.MAX_VALUE, Integer.MIN_VALUE, 0x5b5e2d5c, 0x2a3f5d61};
        for (int i = 0; i < 20 * CALLS; i++) {
            int a = odd[i % 10];
            int b = odd[i / 10 % 10];
            switch (i % 9) {
                case 0, 1, 2 -> x.feed(a, b, a, b, a);
                case 3 -> x.end(a);
                case 4 -> x.pattern();
                case 5 -> x.word();
                case 6 -> x.fits();
                case 7 -> x.fitsPart(a, b);
                default -> x.beginnings();
            }
        }
    }
}
