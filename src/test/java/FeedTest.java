/** Promise 2: feed appends twenty bytes, of each number the highest first, up to 400 in all. */
public final class FeedTest {
    public static void main(String[] args) {
        theOrderOfBytes();
        bytesAboveOneHundredAndTwentySeven();
        feedAppends();
        theLimit();
        theLimitBehindAnEnd();
        aRefusedFeedChangesNothing();
        Checks.finish();
    }

    private static void theOrderOfBytes() {
        WildCards x = new WildCards();
        Checks.due("feed", x.feed(0x61626364, 0x65666768, 0x696a6b6c, 0x6d6e6f70, 0x71727374), true);
        Checks.due("word()", x.word(), 20);
        Checks.setPattern(x, "abcdefghijklmnopqrst");
        Checks.due("fits() of twenty bytes in their order", x.fits(), true);
    }

    private static void bytesAboveOneHundredAndTwentySeven() {
        WildCards x = new WildCards();
        Checks.due("feed", x.feed(-1, Integer.MIN_VALUE, Integer.MAX_VALUE, 0, 0x00ff0080), true);
        Checks.due("word()", x.word(), 20);
        Checks.setPattern(x, "\u00ff\u00ff\u00ff\u00ff\u0080\0\0\0\u007f\u00ff\u00ff\u00ff\0\0\0\0\0\u00ff\0\u0080");
        Checks.due("fits() of high bytes", x.fits(), true);
    }

    private static void feedAppends() {
        WildCards x = new WildCards();
        x.feed(0x61626364, 0, 0, 0, 0);
        x.end(3);
        x.feed(0x78797a00, 0, 0, 0, 0);
        Checks.due("end(6)", x.end(6), true);
        Checks.due("word()", x.word(), 6);
        Checks.setPattern(x, "abcxyz");
        Checks.due("fits() of abcxyz", x.fits(), true);
    }

    private static void theLimit() {
        WildCards x = new WildCards();
        for (int i = 1; i <= 20; i++) {
            Checks.due("feed " + i, x.feed(i, i, i, i, i), true);
        }
        Checks.due("feed 21", x.feed(0, 0, 0, 0, 0), false);
        Checks.due("end(401)", x.end(401), false);
        Checks.due("end(400)", x.end(400), true);
        Checks.due("word()", x.word(), 400);
        Checks.due("feed to the tape that is empty again", x.feed(0, 0, 0, 0, 0), true);
    }

    private static void theLimitBehindAnEnd() {
        WildCards x = new WildCards();
        for (int i = 0; i < 20; i++) {
            x.feed(0, 0, 0, 0, 0);
        }
        Checks.due("end(381)", x.end(381), true);
        Checks.due("feed to 381 bytes", x.feed(0, 0, 0, 0, 0), false);
        Checks.due("end(380)", x.end(380), true);
        Checks.due("feed to 380 bytes", x.feed(0, 0, 0, 0, 0), true);
        Checks.due("pattern()", x.pattern(), 400);
    }

    private static void aRefusedFeedChangesNothing() {
        WildCards x = new WildCards();
        for (int i = 0; i < 20; i++) {
            x.feed(0x61616161, 0x61616161, 0x61616161, 0x61616161, 0x61616161);
        }
        x.end(395);
        Checks.due("feed to 395 bytes", x.feed(0x62626262, 0, 0, 0, 0), false);
        Checks.due("end(396)", x.end(396), false);
        Checks.due("word()", x.word(), 395);
        Checks.setPattern(x, "*[^a]*");
        Checks.due("fits(), another byte than a being in the word", x.fits(), false);
    }
}
