/** Promise 5: word takes the tape's bytes, leaves the tape empty and tells how many they were. */
public final class WordTest {
    public static void main(String[] args) {
        Sentences.under("Promise 5: word");
        theTapesBytes();
        aWordsBytesAreNoThings();
        oneOfNoBytes();
        oneOfAllTheTape();
        onlyTheNewOneCounts();
        theTapeGoesItsOwnWay();
        thePatternStays();
        theTapeIsEmpty();
        howMany();
        Sentences.finish();
    }

    private static void theTapesBytes() {
        Sentences.quote("The tape's bytes are the word");
        WildCards x = new WildCards();
        x.feed(0x61626364, 0x65666768, 0x696a6b6c, 0x6d6e6f70, 0x71727374);
        Checks.due("word()", x.word(), 20);
        Checks.setPattern(x, "abcdefghijklmnopqrst");
        Checks.due("fits() to the same bytes", x.fits(), true);
        Checks.setPattern(x, "abcdefghijklmnopqrsu");
        Checks.due("fits() to another last byte", x.fits(), false);
        Checks.setPattern(x, "bbcdefghijklmnopqrst");
        Checks.due("fits() to another first byte", x.fits(), false);
        Checks.setPattern(x, "abcdefghijklmnopqrs");
        Checks.due("fits() to a byte less", x.fits(), false);
    }

    private static void aWordsBytesAreNoThings() {
        Sentences.quote("The tape's bytes are the word");
        WildCards x = Checks.with("\\*\\?\\[a]\\\\", "*?[a]\\");
        Checks.due("fits() of *?[a]\\", x.fits(), true);
        Checks.setPattern(x, "abc");
        for (String word : new String[] {"*", "???", "a[b]c", "\\abc"}) {
            Checks.setWord(x, word);
            Checks.due("fits() of " + word + " to abc", x.fits(), false);
        }
    }

    private static void oneOfNoBytes() {
        Sentences.quote("The tape's bytes are the word");
        WildCards x = Checks.with("?", "b");
        Checks.due("fits() of b", x.fits(), true);
        Checks.due("word() of the empty tape", x.word(), 0);
        Checks.due("fits() of nothing to ?", x.fits(), false);
        Checks.due("fitsPart(0, 1) of nothing", x.fitsPart(0, 1), false);
        Checks.due("beginnings() of nothing", x.beginnings(), 0);
        x.feed(0x61616161, 0, 0, 0, 0);
        x.end(0);
        Checks.due("word() behind end(0)", x.word(), 0);
        Checks.setPattern(x, "*");
        Checks.due("fits() of nothing to *", x.fits(), true);
        Checks.due("beginnings() of nothing to *", x.beginnings(), 1);
    }

    private static void oneOfAllTheTape() {
        Sentences.quote("The tape's bytes are the word");
        String letters = "abcdefghij".repeat(40);
        WildCards x = Checks.with(letters, letters);
        Checks.due("fits() of 400 bytes", x.fits(), true);
        Checks.due("fitsPart(0, 400)", x.fitsPart(0, 400), true);
        Checks.setWord(x, letters.substring(0, 399));
        Checks.due("fits() of 399 bytes", x.fits(), false);
        Checks.setWord(x, letters.substring(0, 399) + "x");
        Checks.due("fits() with another last byte", x.fits(), false);
    }

    private static void onlyTheNewOneCounts() {
        Sentences.quote("The tape's bytes are the word");
        WildCards x = Checks.with("*", "a".repeat(400));
        Checks.setWord(x, "bc");
        Checks.due("beginnings() of bc to *", x.beginnings(), 3);
        Checks.due("fitsPart(2, 1) of bc", x.fitsPart(2, 1), false);
        Checks.due("fitsPart(0, 3) of bc", x.fitsPart(0, 3), false);
        Checks.setPattern(x, "*a*");
        Checks.due("fits() of bc to *a*", x.fits(), false);
        Checks.due("beginnings() of bc to *a*", x.beginnings(), 0);
    }

    private static void theTapeGoesItsOwnWay() {
        Sentences.quote("The tape's bytes are the word");
        WildCards x = Checks.with("abc", "abc");
        x.feed(0x71717171, 0x71717171, 0x71717171, 0x71717171, 0x71717171);
        Checks.due("fits() with other bytes on the tape", x.fits(), true);
        x.end(3);
        Checks.due("fits() behind end(3)", x.fits(), true);
        Checks.due("word() of those", x.word(), 3);
        Checks.due("fits() of those", x.fits(), false);
    }

    private static void thePatternStays() {
        Sentences.quote("The tape's bytes are the word");
        WildCards x = Checks.with("*c", "abc");
        Checks.setWord(x, "abd");
        Checks.due("fits() of abd to *c", x.fits(), false);
        Checks.setWord(x, "c");
        Checks.due("fits() of c to *c", x.fits(), true);
        x.word();
        Checks.due("fits() of nothing to *c", x.fits(), false);
        Checks.setWord(x, "cc");
        Checks.due("fits() of cc to *c", x.fits(), true);
    }

    private static void theTapeIsEmpty() {
        Sentences.quote("(the tape is empty then)");
        for (int n : new int[] {0, 1, 19, 20, 21, 399, 400}) {
            WildCards x = Checks.withTape(n);
            Checks.due("word() of " + n, x.word(), n);
            Checks.due("end(1) behind word()", x.end(1), false);
            Checks.due("end(0) behind word()", x.end(0), true);
            Checks.due("pattern()", x.pattern(), 0);
            Checks.due("word() again", x.word(), 0);
            for (int i = 1; i <= 20; i++) {
                Checks.due("feed " + i + " behind word()", x.feed(0, 0, 0, 0, 0), true);
            }
            Checks.due("feed 21 behind word()", x.feed(0, 0, 0, 0, 0), false);
            Checks.due("word() of the full tape", x.word(), 400);
        }
    }

    private static void howMany() {
        Sentences.quote("how many.");
        for (int n = 0; n <= 400; n++) {
            Checks.due("word() of " + n, Checks.withTape(n).word(), n);
        }
    }
}
