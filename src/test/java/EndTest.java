/** Promise 3: end leaves the first n bytes of the tape, or refuses and changes nothing. */
public final class EndTest {
    public static void main(String[] args) {
        Sentences.under("Promise 3: end");
        theFirstBytesCount();
        noneAndAll();
        feedGoesOnBehindThem();
        notSoMany();
        notSoManyBehindAnEnd();
        belowZero();
        aRefusedOneLeavesTheTape();
        patternAndWordStay();
        Sentences.finish();
    }

    private static void theFirstBytesCount() {
        Sentences.quote("Of the tape only the first n bytes count");
        String bytes = "abcdefghijklmnopqrst";
        for (int n = 0; n <= 20; n++) {
            WildCards x = new WildCards();
            x.feed(0x61626364, 0x65666768, 0x696a6b6c, 0x6d6e6f70, 0x71727374);
            Checks.due("end(" + n + ") of 20", x.end(n), true);
            Checks.due("word() behind end(" + n + ")", x.word(), n);
            Checks.setPattern(x, bytes.substring(0, n));
            Checks.due("fits() of the first " + n, x.fits(), true);
        }
        for (int n = 0; n <= 400; n++) {
            WildCards x = Checks.withTape(400);
            Checks.due("end(" + n + ") of 400", x.end(n), true);
            Checks.due("pattern() behind end(" + n + ")", x.pattern(), n);
        }
    }

    private static void noneAndAll() {
        Sentences.quote("Of the tape only the first n bytes count");
        WildCards x = new WildCards();
        Checks.due("end(0) of the empty tape", x.end(0), true);
        x.feed(0x61616161, 0x61616161, 0x61616161, 0x61616161, 0x61616161);
        Checks.due("end(20) of 20", x.end(20), true);
        Checks.due("end(20) of 20 again", x.end(20), true);
        Checks.due("end(0) of 20", x.end(0), true);
        Checks.due("end(0) again", x.end(0), true);
        Checks.due("word()", x.word(), 0);
        Checks.due("end(0) behind word()", x.end(0), true);
        Checks.setPattern(x, "*?");
        Checks.due("fits(), the word having a byte", x.fits(), false);
    }

    private static void feedGoesOnBehindThem() {
        Sentences.quote("Of the tape only the first n bytes count");
        WildCards x = new WildCards();
        x.feed(0x61626364, 0x65666768, 0x696a6b6c, 0x6d6e6f70, 0x71727374);
        x.end(2);
        x.feed(0x78797a78, 0, 0, 0, 0);
        Checks.due("end(23) of 22", x.end(23), false);
        Checks.due("end(5) of 22", x.end(5), true);
        Checks.due("word()", x.word(), 5);
        Checks.setPattern(x, "abxyz");
        Checks.due("fits() of abxyz", x.fits(), true);
    }

    private static void notSoMany() {
        Sentences.quote("false, changing nothing, when it has not so many");
        for (int has = 0; has <= 400; has++) {
            WildCards x = Checks.withTape(has);
            Checks.due("end(" + (has + 1) + ") of " + has, x.end(has + 1), false);
            Checks.due("end(401) of " + has, x.end(401), false);
            Checks.due("end(MAX) of " + has, x.end(Integer.MAX_VALUE), false);
            Checks.due("word()", x.word(), has);
            Checks.due("end(1) behind word()", x.end(1), false);
        }
    }

    private static void notSoManyBehindAnEnd() {
        Sentences.quote("when it has not so many");
        WildCards x = new WildCards();
        x.feed(0x61626364, 0x65000000, 0, 0, 0);
        Checks.due("end(21) of 20", x.end(21), false);
        Checks.due("end(5) of 20", x.end(5), true);
        Checks.due("end(6) of 5", x.end(6), false);
        Checks.due("end(20) of 5", x.end(20), false);
        Checks.due("end(4) of 5", x.end(4), true);
        Checks.due("word()", x.word(), 4);
        Checks.setPattern(x, "abcd");
        Checks.due("fits() of abcd", x.fits(), true);
    }

    private static void belowZero() {
        Sentences.quote("or n is below 0.");
        for (int n : new int[] {-1, -2, -20, -400, -401, Integer.MIN_VALUE, Integer.MIN_VALUE + 20}) {
            Checks.due("end(" + n + ") of the empty tape", new WildCards().end(n), false);
            WildCards x = Checks.withTape(20);
            Checks.due("end(" + n + ") of 20", x.end(n), false);
            Checks.due("word()", x.word(), 20);
            x = Checks.withTape(400);
            Checks.due("end(" + n + ") of 400", x.end(n), false);
            Checks.due("pattern()", x.pattern(), 400);
        }
    }

    private static void aRefusedOneLeavesTheTape() {
        Sentences.quote("false, changing nothing");
        WildCards x = new WildCards();
        x.feed(0x61626364, 0, 0, 0, 0);
        x.end(4);
        Checks.due("end(-1)", x.end(-1), false);
        Checks.due("end(MIN)", x.end(Integer.MIN_VALUE), false);
        Checks.due("end(5)", x.end(5), false);
        Checks.due("end(MAX)", x.end(Integer.MAX_VALUE), false);
        Checks.due("word()", x.word(), 4);
        Checks.setPattern(x, "abcd");
        Checks.due("fits() of abcd", x.fits(), true);
    }

    private static void patternAndWordStay() {
        Sentences.quote("false, changing nothing");
        WildCards x = Checks.with("a?", "ab");
        x.feed(0, 0, 0, 0, 0);
        Checks.due("end(21)", x.end(21), false);
        Checks.due("end(-1)", x.end(-1), false);
        Checks.due("fits() of ab behind refused ends", x.fits(), true);
        Checks.due("beginnings() behind refused ends", x.beginnings(), 1);
        Checks.due("end(0)", x.end(0), true);
        Checks.due("fits() of ab behind end(0)", x.fits(), true);
        Checks.due("fitsPart(0, 2) behind end(0)", x.fitsPart(0, 2), true);
        Checks.due("word() behind end(0)", x.word(), 0);
    }
}
