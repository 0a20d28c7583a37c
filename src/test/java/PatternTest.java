/** Promise 4: pattern takes the tape's bytes, leaves the tape empty and tells how many they were. */
public final class PatternTest {
    public static void main(String[] args) {
        Sentences.under("Promise 4: pattern");
        theTapesBytes();
        oneOfNoBytes();
        oneOfAllTheTape();
        onlyTheNewOneCounts();
        theTapeGoesItsOwnWay();
        theWordStays();
        theTapeIsEmpty();
        howMany();
        Sentences.finish();
    }

    private static void theTapesBytes() {
        Sentences.quote("The tape's bytes are the pattern");
        WildCards x = new WildCards();
        x.feed(0x61626364, 0x65666768, 0x696a6b6c, 0x6d6e6f70, 0x71727374);
        Checks.due("pattern()", x.pattern(), 20);
        Checks.setWord(x, "abcdefghijklmnopqrst");
        Checks.due("fits() of the same bytes", x.fits(), true);
        Checks.setWord(x, "abcdefghijklmnopqrsu");
        Checks.due("fits() with another last byte", x.fits(), false);
        Checks.setWord(x, "bbcdefghijklmnopqrst");
        Checks.due("fits() with another first byte", x.fits(), false);
        Checks.setWord(x, "abcdefghijklmnopqrs");
        Checks.due("fits() with a byte less", x.fits(), false);
    }

    private static void oneOfNoBytes() {
        Sentences.quote("The tape's bytes are the pattern");
        WildCards x = Checks.with("*", "b");
        Checks.due("fits() of b to *", x.fits(), true);
        Checks.due("pattern() of the empty tape", x.pattern(), 0);
        Checks.due("fits() of b to nothing", x.fits(), false);
        Checks.due("beginnings() of b to nothing", x.beginnings(), 1);
        x.feed(0x2a2a2a2a, 0, 0, 0, 0);
        x.end(0);
        Checks.due("pattern() behind end(0)", x.pattern(), 0);
        Checks.due("fits() of b to nothing behind end(0)", x.fits(), false);
        Checks.due("word() of the empty tape", x.word(), 0);
        Checks.due("fits() of nothing to nothing", x.fits(), true);
    }

    private static void oneOfAllTheTape() {
        Sentences.quote("The tape's bytes are the pattern");
        String letters = "abcdefghij".repeat(40);
        WildCards x = Checks.with(letters, letters);
        Checks.due("fits() of 400 bytes", x.fits(), true);
        Checks.due("beginnings() of 400 bytes", x.beginnings(), 1);
        Checks.setPattern(x, letters.substring(0, 399) + "x");
        Checks.due("fits() to another last byte", x.fits(), false);
        Checks.setPattern(x, letters.substring(0, 399));
        Checks.due("fits() to 399 bytes", x.fits(), false);
        Checks.due("fitsPart(0, 399)", x.fitsPart(0, 399), true);
    }

    private static void onlyTheNewOneCounts() {
        Sentences.quote("The tape's bytes are the pattern");
        WildCards x = Checks.with("[^a]*?[b-d]", "xxxxxxb");
        Checks.due("fits() of the long word", x.fits(), true);
        Checks.setPattern(x, "q");
        Checks.due("fits() of the long word to q", x.fits(), false);
        Checks.setWord(x, "q");
        Checks.due("fits() of q", x.fits(), true);
        Checks.due("beginnings() of q", x.beginnings(), 1);
        Checks.setWord(x, "b");
        Checks.due("fits() of b to q", x.fits(), false);
        Checks.setPattern(x, "*".repeat(400));
        Checks.setPattern(x, "?".repeat(20));
        Checks.setPattern(x, "c");
        for (String word : new String[] {"", "a", "b", "cc", "b".repeat(20), "b".repeat(400)}) {
            Checks.setWord(x, word);
            Checks.due("fits() of \"" + word + "\" to c", x.fits(), false);
        }
    }

    private static void theTapeGoesItsOwnWay() {
        Sentences.quote("The tape's bytes are the pattern");
        WildCards x = Checks.with("abc", "abc");
        x.feed(0x71717171, 0x71717171, 0x71717171, 0x71717171, 0x71717171);
        Checks.due("fits() with other bytes on the tape", x.fits(), true);
        x.end(3);
        Checks.due("fits() behind end(3)", x.fits(), true);
        Checks.due("pattern() of those", x.pattern(), 3);
        Checks.due("fits() to those", x.fits(), false);
    }

    private static void theWordStays() {
        Sentences.quote("The tape's bytes are the pattern");
        WildCards x = Checks.with("a*", "abc");
        Checks.setPattern(x, "*c");
        Checks.due("fits() of abc to *c", x.fits(), true);
        Checks.setPattern(x, "?b?");
        Checks.due("fits() of abc to ?b?", x.fits(), true);
        x.pattern();
        Checks.due("fits() of abc to nothing", x.fits(), false);
        Checks.setPattern(x, "abc");
        Checks.due("fits() of abc to abc", x.fits(), true);
    }

    private static void theTapeIsEmpty() {
        Sentences.quote("(the tape is empty then)");
        for (int n : new int[] {0, 1, 19, 20, 21, 399, 400}) {
            WildCards x = Checks.withTape(n);
            Checks.due("pattern() of " + n, x.pattern(), n);
            Checks.due("end(1) behind pattern()", x.end(1), false);
            Checks.due("end(0) behind pattern()", x.end(0), true);
            Checks.due("pattern() again", x.pattern(), 0);
            Checks.due("word()", x.word(), 0);
            for (int i = 1; i <= 20; i++) {
                Checks.due("feed " + i + " behind pattern()", x.feed(0, 0, 0, 0, 0), true);
            }
            Checks.due("feed 21 behind pattern()", x.feed(0, 0, 0, 0, 0), false);
            Checks.due("pattern() of the full tape", x.pattern(), 400);
        }
    }

    private static void howMany() {
        Sentences.quote("how many.");
        for (int n = 0; n <= 400; n++) {
            Checks.due("pattern() of " + n, Checks.withTape(n).pattern(), n);
        }
        // Bytes are counted, not things.
        Checks.setPattern(new WildCards(), "[a-c]");
        Checks.setPattern(new WildCards(), "\\a\\");
        Checks.setPattern(new WildCards(), "**");
    }
}
