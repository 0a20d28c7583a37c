/** Promise 3: end leaves the first n bytes of the tape, or refuses and changes nothing. */
public final class EndTest {
    public static void main(String[] args) {
        theEmptyTape();
        itOnlyCutsDown();
        refusedOnesChangeNothing();
        patternAndWordStay();
        Checks.finish();
    }

    private static void theEmptyTape() {
        WildCards x = new WildCards();
        Checks.due("end(0)", x.end(0), true);
        Checks.due("end(1)", x.end(1), false);
        Checks.due("end(-1)", x.end(-1), false);
        Checks.due("end(MIN)", x.end(Integer.MIN_VALUE), false);
        Checks.due("end(MAX)", x.end(Integer.MAX_VALUE), false);
    }

    private static void itOnlyCutsDown() {
        WildCards x = new WildCards();
        x.feed(0x61626364, 0x65000000, 0, 0, 0);
        Checks.due("end(21) of 20", x.end(21), false);
        Checks.due("end(20) of 20", x.end(20), true);
        Checks.due("end(5) of 20", x.end(5), true);
        Checks.due("end(6) of 5", x.end(6), false);
        Checks.due("end(4) of 5", x.end(4), true);
        Checks.due("word()", x.word(), 4);
        Checks.setPattern(x, "abcd");
        Checks.due("fits() of abcd", x.fits(), true);
    }

    private static void refusedOnesChangeNothing() {
        WildCards x = new WildCards();
        x.feed(0x61626364, 0, 0, 0, 0);
        x.end(4);
        Checks.due("end(-1)", x.end(-1), false);
        Checks.due("end(MIN)", x.end(Integer.MIN_VALUE), false);
        Checks.due("end(5)", x.end(5), false);
        Checks.due("end(MAX)", x.end(Integer.MAX_VALUE), false);
        Checks.due("word()", x.word(), 4);
    }

    private static void patternAndWordStay() {
        WildCards x = Checks.with("a?", "ab");
        x.feed(0, 0, 0, 0, 0);
        x.end(0);
        Checks.due("fits() of ab behind end(0)", x.fits(), true);
        Checks.due("word() behind end(0)", x.word(), 0);
    }
}
