/** Promise 2: feed appends twenty bytes, of each number the highest first, up to 400 in all. */
public final class FeedTest {
    private static final String TWENTY = "abcdefghijklmnopqrst";

    public static void main(String[] args) {
        Sentences.under("Promise 2: feed");
        twentyBytes();
        behindThoseThere();
        theHighestFirst();
        numbersBelowZero();
        upToFourHundred();
        refusedAbove();
        aRefusedFeedLeavesTheTape();
        aRefusedFeedLeavesPatternAndWord();
        Sentences.finish();
    }

    private static void twentyBytes() {
        Sentences.quote("Appends twenty bytes to the tape");
        for (int feeds = 1; feeds <= 20; feeds++) {
            WildCards x = fedWith(feeds, 0);
            Checks.due("end of one too many, feeds " + feeds, x.end(20 * feeds + 1), false);
            Checks.due("end of all, feeds " + feeds, x.end(20 * feeds), true);
            Checks.due("word(), feeds " + feeds, x.word(), 20 * feeds);
        }
        // Bytes that are 0 count as all others do.
        WildCards x = new WildCards();
        x.feed(0, 0, 0, 0, 0);
        x.word();
        Checks.setPattern(x, "\0".repeat(20));
        Checks.due("fits() of twenty bytes 0", x.fits(), true);
    }

    private static void behindThoseThere() {
        Sentences.quote("Appends twenty bytes to the tape");
        WildCards x = new WildCards();
        x.feed(0x61626364, 0, 0, 0, 0);
        x.end(3);
        Checks.due("feed behind three", x.feed(0x78797a00, 0, 0, 0, 0), true);
        Checks.due("end(24) of 23", x.end(24), false);
        Checks.due("end(6)", x.end(6), true);
        Checks.due("word()", x.word(), 6);
        Checks.setPattern(x, "abcxyz");
        Checks.due("fits() of abcxyz", x.fits(), true);
        x = new WildCards();
        for (int i = 0; i < 20; i++) {
            int four = 0x61616161 + i * 0x01010101;
            x.feed(four, four, four, four, four);
        }
        x.word();
        StringBuilder all = new StringBuilder();
        for (char c : TWENTY.toCharArray()) {
            all.append(("" + c).repeat(20));
        }
        Checks.setPattern(x, all.toString());
        Checks.due("fits() of twenty feeds one behind the other", x.fits(), true);
    }

    private static void theHighestFirst() {
        Sentences.quote("of each number the highest first");
        WildCards x = new WildCards();
        Checks.due("feed", x.feed(0x61626364, 0x65666768, 0x696a6b6c, 0x6d6e6f70, 0x71727374), true);
        Checks.due("word()", x.word(), 20);
        Checks.setPattern(x, TWENTY);
        Checks.due("fits() of twenty bytes in their order", x.fits(), true);
        for (int i = 0; i < 20; i++) {
            Checks.setPattern(x, TWENTY.substring(i, i + 1));
            Checks.due("fitsPart(" + i + ", 1)", x.fitsPart(i, 1), true);
        }
        x.feed(0x61626364, 0x65666768, 0x696a6b6c, 0x6d6e6f70, 0x71727374);
        x.pattern();
        Checks.due("fits() to the same as pattern", x.fits(), true);
    }

    private static void numbersBelowZero() {
        Sentences.quote("of each number the highest first");
        int[] numbers = {-1, Integer.MIN_VALUE, Integer.MAX_VALUE, 0x80ff007f, 0x00ff0080};
        String[] bytes = {"\u00ff\u00ff\u00ff\u00ff", "\u0080\0\0\0", "\u007f\u00ff\u00ff\u00ff",
            "\u0080\u00ff\0\u007f", "\0\u00ff\0\u0080"};
        for (int i = 0; i < 5; i++) {
            WildCards x = new WildCards();
            int[] n = new int[5];
            n[i] = numbers[i];
            Checks.due("feed with " + numbers[i], x.feed(n[0], n[1], n[2], n[3], n[4]), true);
            Checks.due("word()", x.word(), 20);
            Checks.setPattern(x, bytes[i]);
            Checks.due("fitsPart of " + numbers[i], x.fitsPart(4 * i, 4), true);
            Checks.setPattern(x, "\0".repeat(4 * i) + bytes[i] + "\0".repeat(16 - 4 * i));
            Checks.due("fits() of all with " + numbers[i], x.fits(), true);
        }
    }

    private static void upToFourHundred() {
        Sentences.quote("when it would have more than 400.");
        for (int n = 0; n <= 380; n++) {
            WildCards x = Checks.withTape(n);
            Checks.due("feed to " + n + " bytes", x.feed(0, 0, 0, 0, 0), true);
            Checks.due("word()", x.word(), n + 20);
        }
    }

    private static void refusedAbove() {
        Sentences.quote("false, changing nothing, when it would have more than 400.");
        for (int n = 381; n <= 400; n++) {
            WildCards x = Checks.withTape(n);
            Checks.due("feed to " + n + " bytes", x.feed(0, 0, 0, 0, 0), false);
            Checks.due("feed to " + n + " bytes again", x.feed(-1, -1, -1, -1, -1), false);
            Checks.due("end(" + (n + 1) + ")", x.end(n + 1), false);
            Checks.due("word()", x.word(), n);
        }
        WildCards x = fedWith(20, 0);
        Checks.due("feed 21", x.feed(0, 0, 0, 0, 0), false);
        Checks.due("word()", x.word(), 400);
        Checks.due("feed to the tape that is empty again", x.feed(0, 0, 0, 0, 0), true);
    }

    private static void aRefusedFeedLeavesTheTape() {
        Sentences.quote("false, changing nothing");
        WildCards x = fedWith(20, 0x61616161);
        x.end(381);
        Checks.due("feed to 381 bytes", x.feed(0x62626262, 0x62626262, 0x62626262, 0x62626262, 0x62626262), false);
        Checks.due("end(382)", x.end(382), false);
        Checks.due("end(380)", x.end(380), true);
        Checks.due("feed to 380 bytes", x.feed(0x63636363, 0x63636363, 0x63636363, 0x63636363, 0x63636363), true);
        Checks.due("word()", x.word(), 400);
        Checks.setPattern(x, "a".repeat(380) + "c".repeat(20));
        Checks.due("fits() without the bytes that were refused", x.fits(), true);
    }

    private static void aRefusedFeedLeavesPatternAndWord() {
        Sentences.quote("false, changing nothing");
        WildCards x = Checks.with("a?c", "abc");
        for (int i = 0; i < 20; i++) {
            x.feed(0, 0, 0, 0, 0);
        }
        Checks.due("feed to 400 bytes", x.feed(0x78787878, 0, 0, 0, 0), false);
        Checks.due("fits() behind it", x.fits(), true);
        Checks.due("beginnings() behind it", x.beginnings(), 1);
        Checks.due("fitsPart(0, 2) behind it", x.fitsPart(0, 2), false);
        Checks.due("fitsPart(0, 4) behind it", x.fitsPart(0, 4), false);
    }

    private static WildCards fedWith(int feeds, int number) {
        WildCards x = new WildCards();
        for (int i = 0; i < feeds; i++) {
            Checks.due("feed " + (i + 1), x.feed(number, number, number, number, number), true);
        }
        return x;
    }
}
