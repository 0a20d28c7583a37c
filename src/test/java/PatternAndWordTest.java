/** Promises 4 and 5: pattern and word take the tape's bytes, tell how many, and empty the tape. */
public final class PatternAndWordTest {
    public static void main(String[] args) {
        theTapeIsEmptyThen();
        oneLeavesTheOther();
        aNewOneReplacesTheOld();
        theTapeGoesItsOwnWay();
        theWholeTape();
        Checks.finish();
    }

    private static void theTapeIsEmptyThen() {
        WildCards x = new WildCards();
        x.feed(0, 0, 0, 0, 0);
        x.feed(0, 0, 0, 0, 0);
        Checks.due("pattern() of 40", x.pattern(), 40);
        Checks.due("end(1) behind pattern()", x.end(1), false);
        Checks.due("pattern() again", x.pattern(), 0);
        x.feed(0, 0, 0, 0, 0);
        x.end(7);
        Checks.due("word() of 7", x.word(), 7);
        Checks.due("end(1) behind word()", x.end(1), false);
        Checks.due("word() again", x.word(), 0);
    }

    private static void oneLeavesTheOther() {
        WildCards x = Checks.with("a*", "abc");
        Checks.setPattern(x, "*c");
        Checks.due("fits() of abc to *c", x.fits(), true);
        Checks.setWord(x, "abd");
        Checks.due("fits() of abd to *c", x.fits(), false);
        Checks.setWord(x, "c");
        Checks.due("fits() of c to *c", x.fits(), true);
    }

    private static void aNewOneReplacesTheOld() {
        WildCards x = Checks.with("[^a]*?[b-d]", "xxxxxxb");
        Checks.due("fits() of the long word", x.fits(), true);
        Checks.setPattern(x, "q");
        Checks.due("fits() of the long word to q", x.fits(), false);
        Checks.setWord(x, "q");
        Checks.due("fits() of q", x.fits(), true);
        Checks.due("beginnings() of q", x.beginnings(), 1);
        Checks.setWord(x, "b");
        Checks.due("fits() of b to q", x.fits(), false);
        Checks.due("pattern() of the empty tape", x.pattern(), 0);
        Checks.due("fits() of b to nothing", x.fits(), false);
        Checks.due("word() of the empty tape", x.word(), 0);
        Checks.due("fits() of nothing to nothing", x.fits(), true);
        Checks.due("fitsPart(0, 1) of nothing", x.fitsPart(0, 1), false);
    }

    private static void theTapeGoesItsOwnWay() {
        WildCards x = Checks.with("abc", "abc");
        x.feed(0x71717171, 0x71717171, 0x71717171, 0x71717171, 0x71717171);
        Checks.due("fits() with other bytes on the tape", x.fits(), true);
        Checks.due("word() of those", x.word(), 20);
        Checks.due("fits() of those", x.fits(), false);
    }

    private static void theWholeTape() {
        String letters = "abcdefghij".repeat(40);
        WildCards x = Checks.with(letters, letters);
        Checks.due("fits() of 400 bytes", x.fits(), true);
        Checks.due("beginnings() of 400 bytes", x.beginnings(), 1);
        Checks.setWord(x, letters.substring(0, 399));
        Checks.due("fits() of 399 bytes", x.fits(), false);
        Checks.setWord(x, letters.substring(0, 399) + "x");
        Checks.due("fits() with another last byte", x.fits(), false);
    }
}
