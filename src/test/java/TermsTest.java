import java.lang.reflect.Field;
import java.lang.reflect.Modifier;

/** The sentences under "Terms": what a pattern's things are, and what fits. */
public final class TermsTest {
    private static final String ALL = Checks.allBytes();

    public static void main(String[] args) {
        Sentences.under("Terms");
        thingsOneBehindTheOther();
        anyOne();
        anyManyOrNone();
        oneOfThoseTold();
        theFirstEndsIt();
        alsoJustBehindTheBeginning();
        soDoesThePatternsEnd();
        singleOnesOrRanges();
        noRangeWithoutASecondOne();
        nothingWhenLowIsAboveHigh();
        oneOfAllOthers();
        aBackslash();
        aBackslashInBrackets();
        aBackslashAtThePatternsEnd();
        allOtherBytes();
        partedSoThatEachHasItsOwn();
        bytesAreUnsigned();
        memoryIsTheClasssOwn();
        Sentences.finish();
    }

    private static void thingsOneBehindTheOther() {
        Sentences.quote("A PATTERN has THINGS one behind the other");
        yes("", "");
        no("", "a", "\0");
        yes("ab", "ab");
        no("ab", "ba", "a", "b", "abb");
        yes("a?[b]\\c*", "a?bc", "axbcd");
        no("a?[b]\\c*", "abxc", "xabc", "axb");
        yes("?".repeat(400), "b".repeat(400));
        no("?".repeat(400), "b".repeat(399));
        yes("ab".repeat(200), "ab".repeat(200));
        no("ab".repeat(200), "ab".repeat(199) + "ba", "ba" + "ab".repeat(199));
    }

    private static void anyOne() {
        Sentences.quote("? is any one byte");
        takesJust("?", ALL);
        no("?", "??", "\0\0");
        yes("a?", "aa", "a?");
        no("a?", "a", "abc");
    }

    private static void anyManyOrNone() {
        Sentences.quote("* any bytes (or none)");
        yes("*", "", "a", "*", "ab", ALL, "a".repeat(400));
        yes("a*c", "ac", "abc", "a*c", "a" + ALL + "c", "a".repeat(399) + "c");
        no("a*c", "", "a", "c", "ab", "bc");
        yes("*".repeat(400), "", "a", "a".repeat(400));
        yes("a".repeat(399) + "*", "a".repeat(399), "a".repeat(400));
        no("a".repeat(399) + "*", "a".repeat(398));
        yes("*" + "a".repeat(399), "a".repeat(399), "b" + "a".repeat(399));
        no("*" + "a".repeat(399), "a".repeat(398), "a".repeat(399) + "b");
    }

    private static void oneOfThoseTold() {
        Sentences.quote("[ begins one byte of those that are told up to ]");
        takesJust("[abc]", "abc");
        takesJust("[aa]", "a");
        takesJust("[?*]", "?*");
        takesJust("[[]", "[");
        takesJust("[\0\u007f\u0080\u00ff]", "\0\u007f\u0080\u00ff");
        takesJust("[" + "a".repeat(397) + "b]", "ab");
        yes("x[ab]y", "xay", "xby");
        no("x[ab]y", "xy", "xaby", "xcy", "x[ab]y");
        yes("[ab]".repeat(100), "ab".repeat(50), "b".repeat(100));
        no("[ab]".repeat(100), "b".repeat(99), "b".repeat(99) + "c");
    }

    private static void theFirstEndsIt() {
        Sentences.quote("the first ] ends it");
        yes("[a]]", "a]");
        no("[a]]", "a", "]", "]]", "a]]");
        yes("[a]b]", "ab]");
        no("[a]b]", "a", "b", "]");
        yes("[b]-d]", "b-d]");
        no("[b]-d]", "c", "b", "]");
        yes("[[]]", "[]");
        no("[[]]", "[", "]", "]]");
        yes("[a][b]", "ab");
        no("[a][b]", "a", "b", "]b", "[b");
    }

    private static void alsoJustBehindTheBeginning() {
        Sentences.quote("also just behind [ or [^");
        takesJust("[]", "");
        no("[]]", "", "]", "]]", "a]", "[]]");
        no("[]a]", "a", "]", "]a]", "aa]");
        no("*[]*", "", "a", "]");
        takesJust("[^]", ALL);
        yes("[^]]", "a]", "]]", "^]");
        no("[^]]", "a", "]", "^");
        yes("[^]a]", "xa]");
        no("[^]a]", "x", "a", "]");
    }

    private static void soDoesThePatternsEnd() {
        Sentences.quote("and so does the pattern's end");
        takesJust("[", "");
        takesJust("[^", ALL);
        takesJust("[ab", "ab");
        takesJust("[^ab", allBut("ab"));
        takesJust("[b-d", "bcd");
        takesJust("[" + "a".repeat(398) + "b", "ab");
        takesJust("[^" + "a".repeat(397) + "b", allBut("ab"));
        yes("x[a", "xa");
        no("x[a", "x", "x[a", "a");
        no("x[", "x", "x[", "xa");
        yes("?".repeat(398) + "[a", "b".repeat(398) + "a");
        no("?".repeat(399) + "[", "b".repeat(400), "b".repeat(399));
    }

    private static void singleOnesOrRanges() {
        Sentences.quote("single ones, or low-high");
        takesJust("[b-d]", "bcd");
        takesJust("[xb-dy]", "xbcdy");
        takesJust("[a-cf-h]", "abcfgh");
        takesJust("[a-cb-d]", "abcd");
        takesJust("[b-b]", "b");
        takesJust("[\0-\u00ff]", ALL);
        takesJust("[\0-\0]", "\0");
        takesJust("[\u00ff-\u00ff]", "\u00ff");
        takesJust("[\u0001-\u00fe]", allBut("\0\u00ff"));
        takesJust("[a-c-e]", "abc-e");
        takesJust("[-a]", "-a");
        takesJust("[--0]", "-./0");
        takesJust("[+--]", "+,-");
        takesJust("[---]", "-");
        takesJust("[Z-[]", "Z[");
        takesJust("[*-?]", range('*', '?'));
        takesJust("[Z-^]", range('Z', '^'));
    }

    private static void noRangeWithoutASecondOne() {
        Sentences.quote("the second one not being ] or the end");
        takesJust("[a-]", "a-");
        takesJust("[a-", "a-");
        takesJust("[-]", "-");
        takesJust("[-", "-");
        takesJust("[--]", "-");
        takesJust("[--", "-");
        takesJust("[a-c-]", "abc-");
        takesJust("[a-c-", "abc-");
        takesJust("[A-]", "A-");
        takesJust("[^a-]", allBut("a-"));
        takesJust("[^a-", allBut("a-"));
        takesJust("[^-]", allBut("-"));
        takesJust("[^-", allBut("-"));
        yes("[A-]z]", "Az]", "-z]");
        no("[A-]z]", "A", "Z", "B", "Bz]", "]z]", "z]");
        yes("?".repeat(397) + "[a-", "b".repeat(397) + "a", "b".repeat(397) + "-");
    }

    private static void nothingWhenLowIsAboveHigh() {
        Sentences.quote("nothing, when low is above high");
        takesJust("[d-b]", "");
        takesJust("[b-a]", "");
        takesJust("[\u00ff-\0]", "");
        takesJust("[\u0080-\u007f]", "");
        takesJust("[d-bx]", "x");
        takesJust("[xd-b]", "x");
        takesJust("[d-bb]", "b");
        takesJust("[a--]", "");
        takesJust("[d-b", "");
        takesJust("[^d-b]", ALL);
        takesJust("[^\u00ff-\0]", ALL);
        takesJust("[^d-bx]", allBut("x"));
        takesJust("[^d-b", ALL);
    }

    private static void oneOfAllOthers() {
        Sentences.quote("and with ^ just behind [ one of all others");
        takesJust("[^abc]", allBut("abc"));
        takesJust("[^b-d]", allBut("bcd"));
        takesJust("[^aa]", allBut("a"));
        takesJust("[^a-cb]", allBut("abc"));
        takesJust("[^\0\u00ff]", allBut("\0\u00ff"));
        takesJust("[^\0-\u00ff]", "");
        takesJust("[^\0-\u00fe]", "\u00ff");
        takesJust("[^^]", allBut("^"));
        takesJust("[^^-a]", allBut("^_`a"));
        takesJust("[^-a]", allBut("-a"));
        takesJust("[a^]", "a^");
        takesJust("[a^b]", "a^b");
        yes("^[^a]", "^b");
        no("^[^a]", "^a", "b", "^");
        yes("[^a]".repeat(100), "b".repeat(100));
        no("[^a]".repeat(100), "b".repeat(99) + "a", "a" + "b".repeat(99), "b".repeat(99));
    }

    private static void aBackslash() {
        Sentences.quote("a backslash (92) makes the next byte itself");
        for (char c = 0; c < 256; c++) {
            takesJust((char) 92 + "" + c, "" + c);
        }
        yes("\\[a]", "[a]");
        no("\\[a]", "a", "\\a");
        yes("\\\\*", "\\", "\\a");
        no("\\\\*", "*", "");
        yes("\\*".repeat(200), "*".repeat(200));
        no("\\*".repeat(200), "", "*".repeat(199), "\\*".repeat(200));
    }

    private static void aBackslashInBrackets() {
        Sentences.quote("also in brackets");
        for (char c = 0; c < 256; c++) {
            takesJust("[\\" + c + "]", "" + c);
        }
        takesJust("[\\^a]", "^a");
        takesJust("[^\\^]", allBut("^"));
        takesJust("[^\\]]", allBut("]"));
        takesJust("[a\\]b]", "a]b");
        takesJust("[b\\-d]", "b-d");
        takesJust("[\\b-d]", "bcd");
        takesJust("[b-\\d]", "bcd");
        takesJust("[\\--0]", "-./0");
        takesJust("[+-\\-]", "+,-");
        takesJust("[\\\\-^]", "\\]^");
        takesJust("[\\]-a]", "]^_`a");
        takesJust("[A-\\]]", range('A', ']'));
        takesJust("[Z-\\\\]", "Z[\\");
        takesJust("[a-\\]]", "");
        takesJust("[^A-\\]]", allBut(range('A', ']')));
        takesJust("[\\]", "]");
        takesJust("[a\\]", "a]");
        yes("[\\\\]]", "\\]");
        no("[\\\\]]", "\\", "]");
    }

    private static void aBackslashAtThePatternsEnd() {
        Sentences.quote("at the pattern's end it is itself");
        takesJust("\\", "\\");
        takesJust("[\\", "\\");
        takesJust("[a\\", "a\\");
        takesJust("[^\\", allBut("\\"));
        takesJust("[A-\\", range('A', '\\'));
        takesJust("[a-\\", "");
        yes("a\\", "a\\");
        no("a\\", "a", "a\\\\");
        yes("\\\\\\", "\\\\");
        no("\\\\\\", "\\", "\\\\\\");
        yes("*\\", "\\", "a\\");
        no("*\\", "", "a");
        yes("a".repeat(399) + "\\", "a".repeat(399) + "\\");
        no("a".repeat(399) + "\\", "a".repeat(399));
    }

    private static void allOtherBytes() {
        Sentences.quote("all other bytes are themselves");
        for (char c = 0; c < 256; c++) {
            if ("?*[\\".indexOf(c) < 0) {
                takesJust("" + c, "" + c);
            }
        }
        yes("]-^!", "]-^!");
        yes("a-c", "a-c");
        no("a-c", "b", "a", "abc");
    }

    private static void partedSoThatEachHasItsOwn() {
        Sentences.quote("A word FITS a pattern if its bytes can be parted so that each thing has its own.");
        yes("*ab*ab", "abab", "ababab", "aabbab");
        no("*ab*ab", "ab", "aab", "ababx");
        yes("*aab", "aaab", "aabaab", "aaaaab");
        no("*aab", "ab", "aaba");
        yes("?*?", "ab", "abc");
        no("?*?", "", "a");
        yes("a*a", "aa", "aba");
        no("a*a", "a", "", "ab");
        yes("*[ab]*[^a]*", "ab", "xaxbx", "bb");
        no("*[ab]*[^a]*", "aa", "a", "xc");
        no("a", "", "aa", "ab", "ba");
        // Trying one parting behind the other would not end with this one.
        no("*a".repeat(199) + "*b", "a".repeat(400));
        yes("*a".repeat(200), "a".repeat(200), "a".repeat(400), "ba".repeat(200));
        no("*a".repeat(200), "a".repeat(199), "a".repeat(399) + "b");
    }

    private static void bytesAreUnsigned() {
        Sentences.quote("Bytes are 0 .. 255.");
        takesJust("[\u007f-\u0080]", "\u007f\u0080");
        takesJust("[\u0080-\u00ff]", range(128, 255));
        takesJust("[\0-\u007f]", range(0, 127));
        takesJust("[^\u0080-\u00ff]", range(0, 127));
        takesJust("\0", "\0");
        takesJust("\u00ff", "\u00ff");
        WildCards x = new WildCards();
        x.feed(-1, 0, Integer.MIN_VALUE, Integer.MAX_VALUE, -2);
        Checks.due("word()", x.word(), 20);
        Checks.setPattern(x, "\u00ff\u00ff\u00ff\u00ff\0\0\0\0\u0080\0\0\0\u007f\u00ff\u00ff\u00ff\u00ff\u00ff\u00ff\u00fe");
        Checks.due("fits() of the lowest and highest numbers' bytes", x.fits(), true);
    }

    private static void memoryIsTheClasssOwn() {
        Sentences.quote("All memory is the class's own.");
        WildCards x = Checks.with("a*", "ab");
        WildCards y = Checks.with("b*", "bc");
        x.feed(0x63636363, 0, 0, 0, 0);
        Checks.due("end(1) of the other object", y.end(1), false);
        Checks.due("fits() of the first", x.fits(), true);
        Checks.due("fits() of the other", y.fits(), true);
        Checks.due("word() of the other", y.word(), 0);
        Checks.due("fits() of the first, the other's word being empty", x.fits(), true);
        Checks.due("word() of the first", x.word(), 20);
        Checks.due("fits() of the first behind word()", x.fits(), false);
        Checks.due("beginnings() of the other", y.beginnings(), 0);
        noneIsStatic(WildCards.class);
        for (Class<?> inside : WildCards.class.getDeclaredClasses()) {
            noneIsStatic(inside);
        }
    }

    private static void noneIsStatic(Class<?> some) {
        for (Field field : some.getDeclaredFields()) {
            if (Modifier.isStatic(field.getModifiers())) {
                Checks.due(field + " is a constant",
                        Modifier.isFinal(field.getModifiers()) && field.getType().isPrimitive(), true);
            }
        }
    }

    /** The pattern is one thing that takes one byte, of these and no others. */
    private static void takesJust(String pattern, String bytes) {
        WildCards x = Checks.with(pattern, ALL);
        for (int b = 0; b < 256; b++) {
            Checks.due("fitsPart(" + b + ", 1) of all bytes to \"" + pattern + "\"",
                    x.fitsPart(b, 1), bytes.indexOf(b) >= 0);
        }
        no(pattern, "");
        if (!bytes.isEmpty()) {
            char first = bytes.charAt(0);
            char last = bytes.charAt(bytes.length() - 1);
            yes(pattern, "" + first, "" + last);
            no(pattern, "" + first + last, "" + last + last + last);
        }
    }

    private static String range(int low, int high) {
        return ALL.substring(low, high + 1);
    }

    private static String allBut(String bytes) {
        StringBuilder others = new StringBuilder();
        for (char c : ALL.toCharArray()) {
            if (bytes.indexOf(c) < 0) {
                others.append(c);
            }
        }
        return others.toString();
    }

    private static void yes(String pattern, String... words) {
        for (String word : words) {
            Checks.fits(pattern, word, true);
        }
    }

    private static void no(String pattern, String... words) {
        for (String word : words) {
            Checks.fits(pattern, word, false);
        }
    }
}
