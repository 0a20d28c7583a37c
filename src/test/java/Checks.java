import java.nio.charset.StandardCharsets;

/** What the tests share: counting wrong answers, and texts as bytes on the tape. */
final class Checks {
    private static int wrong = 0;
    private static String sentence = "";

    private Checks() {
    }

    /** The document's sentence that the next checks are of, or "". */
    static void about(String words) {
        sentence = words;
    }

    static void due(String what, Object got, Object want) {
        if (!got.equals(want)) {
            wrong++;
            System.out.println(what + " answered " + got + ", due is " + want
                    + (sentence.isEmpty() ? "" : " (\"" + sentence + "\")"));
        }
    }

    /** Every test's last line: the exit code tells whether all was as due. */
    static void finish() {
        System.out.println(wrong == 0 ? "all answers are as due" : wrong + " answers are not as due");
        if (wrong != 0) {
            System.exit(1);
        }
    }

    /** All 256 bytes, from 0 to 255. */
    static String allBytes() {
        StringBuilder all = new StringBuilder();
        for (char c = 0; c < 256; c++) {
            all.append(c);
        }
        return all.toString();
    }

    static byte[] bytesOf(String text) {
        return text.getBytes(StandardCharsets.ISO_8859_1);
    }

    /** Puts bytes on an empty tape; their number may be 0 to 400. */
    static void putOnTape(WildCards x, byte[] bytes) {
        for (int at = 0; at < bytes.length; at += 20) {
            due("feed of bytes from " + at, x.feed(numberAt(bytes, at), numberAt(bytes, at + 4),
                    numberAt(bytes, at + 8), numberAt(bytes, at + 12), numberAt(bytes, at + 16)), true);
        }
        due("end(" + bytes.length + ")", x.end(bytes.length), true);
    }

    static void setPattern(WildCards x, String text) {
        putOnTape(x, bytesOf(text));
        due("pattern() of " + text, x.pattern(), text.length());
    }

    static void setWord(WildCards x, String text) {
        putOnTape(x, bytesOf(text));
        due("word() of " + text, x.word(), text.length());
    }

    /** An object with this pattern and this word. */
    static WildCards with(String pattern, String word) {
        WildCards x = new WildCards();
        setPattern(x, pattern);
        setWord(x, word);
        return x;
    }

    /** An object whose tape has n bytes 'a', 0 to 400. */
    static WildCards withTape(int n) {
        WildCards x = new WildCards();
        putOnTape(x, bytesOf("a".repeat(n)));
        return x;
    }

    static void fits(String pattern, String word, boolean want) {
        WildCards x = with(pattern, word);
        due("fits() of \"" + word + "\" to \"" + pattern + "\"", x.fits(), want);
        due("fits() of \"" + word + "\" to \"" + pattern + "\" again", x.fits(), want);
    }

    /** Four bytes as feed wants them; what lies behind the last byte is filled with '#'. */
    private static int numberAt(byte[] bytes, int at) {
        int number = 0;
        for (int i = at; i < at + 4; i++) {
            number = number << 8 | (i < bytes.length ? bytes[i] & 255 : '#');
        }
        return number;
    }
}
