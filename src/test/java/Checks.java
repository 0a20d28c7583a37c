import java.nio.charset.StandardCharsets;

/** What the tests share: counting wrong answers, and texts as bytes on the tape. */
final class Checks {
    private static int wrong = 0;

    private Checks() {
    }

    static void due(String what, Object got, Object want) {
        if (!got.equals(want)) {
            wrong++;
            System.out.println(what + " answered " + got + ", due is " + want);
        }
    }

    /** Every test's last line: the exit code tells whether all was as due. */
    static void finish() {
        System.out.println(wrong == 0 ? "all answers are as due" : wrong + " answers are not as due");
        if (wrong != 0) {
            System.exit(1);
        }
    }

    static byte[] bytesOf(String text) {
        return text.getBytes(StandardCharsets.ISO_8859_1);
    }

    /** Puts bytes on an empty tape; their number may be 0 to 400. */
    static void putOnTape(WildCards x, byte[] bytes) {
        for (int at = 0; at < bytes.length; at += 20) {
            due("feed of bytes from " + at, x.feed(numberAt(bytes, at), numberAt(bytes, at + 4),
                    numberAt(bytes, at + 8), numberAt(bytes, at + 12), numberAt(bytes, at + 16)), true);
        }
        due("end(" + bytes.length + ")", x.end(bytes.length), true);
    }

    static void setPattern(WildCards x, String text) {
        putOnTape(x, bytesOf(text));
        due("pattern() of " + text, x.pattern(), text.length());
    }

    static void setWord(WildCards x, String text) {
        putOnTape(x, bytesOf(text));
        due("word() of " + text, x.word(), text.length());
    }

    /** An object with this pattern and this word. */
    static WildCards with(String pattern, String word) {
        WildCards x = new WildCards();
        setPattern(x, pattern);
        setWord(x, word);
        return x;
    }

    /** Four bytes as feed wants them; what lies behind the last byte is filled with '#'. */
    private static int numberAt(byte[] bytes, int at) {
        int number = 0;
        for (int i = at; i < at + 4; i++) {
            number = number << 8 | (i < bytes.length ? bytes[i] & 255 : '#');
        }
        return number;
    }
}
