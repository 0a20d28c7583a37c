/** Promise 1: pattern, word and tape of a new object are empty. */
public final class NewObjectTest {
    public static void main(String[] args) {
        Sentences.under("Promise 1: A new object");
        patternAndWord();
        thePattern();
        theWord();
        theTape();
        oneMadeLater();
        Sentences.finish();
    }

    private static void patternAndWord() {
        Sentences.quote("Pattern and word are empty");
        Checks.due("fits()", new WildCards().fits(), true);
        Checks.due("beginnings()", new WildCards().beginnings(), 1);
        Checks.due("fitsPart(0, 0)", new WildCards().fitsPart(0, 0), true);
        Checks.due("fitsPart(0, 1)", new WildCards().fitsPart(0, 1), false);
        Checks.due("fitsPart(1, 0)", new WildCards().fitsPart(1, 0), false);
    }

    /** Were it any other pattern than the empty one, another word than the empty one could fit. */
    private static void thePattern() {
        Sentences.quote("Pattern and word are empty");
        for (String word : new String[] {"a", "\0", "*", "\0\0", "a".repeat(400), "\0".repeat(400)}) {
            WildCards x = new WildCards();
            Checks.setWord(x, word);
            Checks.due("fits() to the new pattern", x.fits(), false);
            Checks.due("beginnings() to the new pattern", x.beginnings(), 1);
            Checks.due("fitsPart(0, 0) to the new pattern", x.fitsPart(0, 0), true);
            Checks.due("fitsPart(0, 1) to the new pattern", x.fitsPart(0, 1), false);
        }
    }

    private static void theWord() {
        Sentences.quote("Pattern and word are empty");
        WildCards x = new WildCards();
        Checks.setPattern(x, "*");
        Checks.due("fits() of the new word to *", x.fits(), true);
        Checks.due("beginnings() of the new word to *", x.beginnings(), 1);
        Checks.due("fitsPart(0, 0) of the new word to *", x.fitsPart(0, 0), true);
        Checks.due("fitsPart(0, 1) of the new word to *", x.fitsPart(0, 1), false);
        Checks.due("fitsPart(1, 0) of the new word to *", x.fitsPart(1, 0), false);
        Checks.setPattern(x, "?");
        Checks.due("fits() of the new word to ?", x.fits(), false);
        Checks.due("beginnings() of the new word to ?", x.beginnings(), 0);
    }

    private static void theTape() {
        Sentences.quote("and so is the tape.");
        Checks.due("end(0)", new WildCards().end(0), true);
        Checks.due("end(1)", new WildCards().end(1), false);
        Checks.due("pattern()", new WildCards().pattern(), 0);
        Checks.due("word()", new WildCards().word(), 0);
        WildCards x = new WildCards();
        for (int i = 1; i <= 20; i++) {
            Checks.due("feed " + i, x.feed(0, 0, 0, 0, 0), true);
        }
        Checks.due("word() of twenty feeds", x.word(), 400);
    }

    private static void oneMadeLater() {
        Sentences.quote("Pattern and word are empty, and so is the tape.");
        WildCards x = Checks.with("a", "b");
        x.feed(1, 2, 3, 4, 5);
        WildCards y = new WildCards();
        Checks.due("fits() of an object made later", y.fits(), true);
        Checks.due("beginnings() of an object made later", y.beginnings(), 1);
        Checks.due("end(1) of an object made later", y.end(1), false);
        Checks.setPattern(y, "b");
        Checks.due("fits() of the first object", x.fits(), false);
        Checks.due("word() of the first object", x.word(), 20);
    }
}
