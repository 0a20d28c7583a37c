/** Promise 1: pattern, word and tape of a new object are empty. */
public final class NewObjectTest {
    public static void main(String[] args) {
        Checks.due("fits()", new WildCards().fits(), true);
        Checks.due("beginnings()", new WildCards().beginnings(), 1);
        Checks.due("fitsPart(0, 0)", new WildCards().fitsPart(0, 0), true);
        Checks.due("fitsPart(0, 1)", new WildCards().fitsPart(0, 1), false);
        Checks.due("end(0)", new WildCards().end(0), true);
        Checks.due("end(1)", new WildCards().end(1), false);
        Checks.due("pattern()", new WildCards().pattern(), 0);
        Checks.due("word()", new WildCards().word(), 0);
        emptyPatternRefusesAWord();
        emptyWordFitsAStar();
        objectsShareNothing();
        Checks.finish();
    }

    private static void emptyPatternRefusesAWord() {
        WildCards x = new WildCards();
        Checks.setWord(x, "a");
        Checks.due("fits() of a to the new pattern", x.fits(), false);
        Checks.due("beginnings() of a to the new pattern", x.beginnings(), 1);
    }

    private static void emptyWordFitsAStar() {
        WildCards x = new WildCards();
        Checks.setPattern(x, "*");
        Checks.due("fits() of the new word to *", x.fits(), true);
        Checks.due("beginnings() of the new word to *", x.beginnings(), 1);
        Checks.setPattern(x, "?");
        Checks.due("fits() of the new word to ?", x.fits(), false);
    }

    private static void objectsShareNothing() {
        WildCards x = Checks.with("a", "b");
        x.feed(1, 2, 3, 4, 5);
        WildCards y = new WildCards();
        Checks.due("fits() of an object made later", y.fits(), true);
        Checks.due("end(1) of an object made later", y.end(1), false);
        Checks.setPattern(y, "b");
        Checks.due("fits() of the first object", x.fits(), false);
    }
}
