/** Many patterns and words, each with its answer: the terms beside one another. */
public final class ManyPatternsTest {
    public static void main(String[] args) {
        plainBytes();
        anyOneAndAnyMany();
        brackets();
        ranges();
        allOthers();
        backslashes();
        backslashesInBrackets();
        everyByteOfAThing();
        longOnes();
        Checks.finish();
    }

    private static void plainBytes() {
        yes("", "");
        no("", "a", "aa");
        yes("abc", "abc");
        no("abc", "", "ab", "abcd", "abd", "xbc", "ABC");
        yes("]-^!", "]-^!");
        no("a", "b", "aa");
        yes("\0\u0080\u00ff", "\0\u0080\u00ff");
        no("\u00ff", "\u007f", "\0", "?");
        no("\0", "", "\0\0");
    }

    private static void anyOneAndAnyMany() {
        yes("?", "a", "?", "\0", "\u00ff", "*");
        no("?", "", "ab");
        yes("a?c", "abc", "a?c", "acc");
        no("a?c", "ac", "abbc");
        yes("*", "", "a", "anything", "\0\u00ff");
        yes("a*", "a", "ab", "aaa");
        no("a*", "", "ba");
        yes("*a", "a", "ba", "aba");
        no("*a", "", "ab");
        yes("a*c", "ac", "abc", "acbc");
        no("a*c", "a", "c", "acb");
        yes("**", "", "a", "ab");
        yes("a**b***c", "abc", "axbxc");
        no("a**b***c", "acb", "ab");
        yes("*?", "a", "ab");
        no("*?", "");
        yes("?*?", "ab", "abc");
        no("?*?", "", "a");
        yes("*ab*", "ab", "xxab", "abxx", "aab", "aabb");
        no("*ab*", "a", "ba", "axb");
        yes("*ab*ab", "abab", "ababab", "abxab");
        no("*ab*ab", "ab", "aab", "ababx");
        yes("*aab", "aaab", "aabaab");
        yes("a*a*a", "aaa", "abaca");
        no("a*a*a", "aa", "aab");
    }

    private static void brackets() {
        yes("[abc]", "a", "b", "c");
        no("[abc]", "", "d", "ab", "[", "]");
        no("[]", "", "a", "]", "[", "[]");
        no("[]]", "", "]", "a]", "]]");
        no("[]a]", "a", "]", "]a]");
        yes("[?*]", "?", "*");
        no("[?*]", "a", "", "??");
        yes("[[]", "[");
        yes("[[]]", "[]");
        no("[[]]", "[", "]", "]]");
        yes("[a][b]", "ab");
        no("[a][b]", "a", "b", "ba");
        yes("x[ab]*[cd]y", "xacy", "xbzzdy");
        no("x[ab]*[cd]y", "xcy", "xay", "xccy");
        yes("[aa]", "a");
        no("[", "", "[", "a");
        yes("[ab", "a", "b");
        no("[ab", "", "[", "ab", "[ab");
        yes("x[a", "xa");
        no("x[", "x", "x[");
        yes("[a]]", "a]");
        yes("]", "]");
    }

    private static void ranges() {
        yes("[b-d]", "b", "c", "d");
        no("[b-d]", "a", "e", "-");
        yes("[b-b]", "b");
        no("[b-b]", "a", "c", "-");
        no("[d-b]", "b", "c", "d", "-");
        yes("[d-bx]", "x");
        yes("[a-]", "a", "-");
        no("[a-]", "b", "]");
        yes("[a-]z]", "az]", "-z]");
        yes("[a-", "a", "-");
        no("[a-", "b", "[");
        yes("[-a]", "-", "a");
        no("[-a]", "b", ".", "A");
        yes("[-", "-");
        yes("[--]", "-");
        no("[--]", "]", ",", ".");
        yes("[---]", "-");
        no("[---]", ".");
        yes("[--0]", "-", ".", "/", "0");
        no("[--0]", "1", ",");
        yes("[+--]", "+", ",", "-");
        no("[+--]", ".", "*");
        no("[a--]", "a", "-", "b");
        yes("[a-c-e]", "a", "b", "c", "-", "e");
        no("[a-c-e]", "d", "f");
        yes("[a-ce-g]", "b", "f");
        no("[a-ce-g]", "d", "-");
        yes("[a-c", "b");
        no("[a-c", "-", "d");
        yes("[Z-[]", "Z", "[");
        no("[Z-[]", "-", "Z]");
        yes("]-a]", "]-a]");
        yes("[^-a]", "b", "^", ".");
        yes("[\0-\u00ff]", "\0", "a", "]", "\u00ff");
        yes("[\u0080-\u00ff]", "\u0080", "\u00ff");
        no("[\u0080-\u00ff]", "\u007f", "\0");
        yes("[!-?]", "*", "?", "-");
        yes("[Z-^]", "^", "]", "[");
    }

    private static void allOthers() {
        yes("[^abc]", "d", "^", "\0", "\u00ff", "]");
        no("[^abc]", "", "a", "b", "c", "dd");
        yes("[^]", "a", "]", "^", "\0", "\u00ff");
        no("[^]", "", "aa");
        yes("[^]]", "a]", "]]");
        no("[^]]", "a", "]");
        yes("[^", "a", "^", "[", "]");
        no("[^", "", "[^");
        yes("[^a", "b");
        no("[^a", "a", "");
        no("[^^]", "^");
        yes("[^^]", "a");
        yes("[a^]", "a", "^");
        no("[a^]", "b");
        no("[^b-d]", "b", "c", "d");
        yes("[^b-d]", "a", "e", "-");
        yes("[^d-b]", "b", "c", "d", "-");
        no("[^-a]", "-", "a");
        no("[^a-]", "a", "-");
        yes("[^a-]", "b");
        no("[^--0]", "-", ".", "0");
        no("[^a-ce]", "a", "b", "e");
        yes("[^a-ce]", "d");
        yes("^a", "^a");
        yes("[^a]*[^b]", "bca", "ba");
        no("[^a]*[^b]", "b", "bb", "aa");
        no("[^\0-\u00ff]", "a", "\0", "\u00ff");
        no("[^aa]", "a");
    }

    private static void backslashes() {
        yes("\\*", "*");
        no("\\*", "", "a", "\\*", "\\");
        yes("\\?", "?");
        no("\\?", "a");
        yes("\\[a]", "[a]");
        no("\\[a]", "a");
        yes("\\\\", "\\");
        no("\\\\", "\\\\", "");
        yes("\\a", "a");
        no("\\a", "\\a");
        yes("\\]", "]");
        yes("a\\", "a\\");
        no("a\\", "a");
        yes("\\", "\\");
        no("\\", "");
        yes("\\\\\\", "\\\\");
        yes("*\\", "\\", "a\\");
        yes("\\\\*", "\\", "\\a");
        no("\\\\*", "*");
        yes("\\\u00ff", "\u00ff");
    }

    private static void backslashesInBrackets() {
        yes("[\\]]", "]");
        no("[\\]]", "\\", "]]", "\\]");
        yes("[\\^a]", "^", "a");
        no("[\\^a]", "b", "\\");
        yes("[a\\-c]", "a", "-", "c");
        no("[a\\-c]", "b", "\\");
        yes("[\\a-c]", "a", "b", "c");
        no("[\\a-c]", "-", "\\", "]");
        yes("[a-\\c]", "a", "b", "c");
        no("[a-\\c]", "-", "\\");
        no("[a-\\]]", "a", "]", "b", "-", "\\");
        yes("[A-\\]]", "A", "Z", "\\", "]");
        no("[A-\\]]", "^", "-");
        yes("[\\]-a]", "]", "^", "_", "`", "a");
        no("[\\]-a]", "-", "\\", "b");
        yes("[\\--0]", "-", ".", "0");
        no("[\\--0]", "\\", "1");
        yes("[+-\\-]", "+", ",", "-");
        no("[+-\\-]", "\\", ".");
        yes("[\\\\]", "\\");
        no("[\\\\]", "]");
        yes("[\\\\]]", "\\]");
        yes("[\\\\-^]", "\\", "]", "^");
        yes("[\\", "\\");
        no("[\\", "[", "");
        yes("[a\\", "a", "\\");
        yes("[A-\\", "A", "Z", "\\");
        no("[A-\\", "-", "]", "a");
        no("[a-\\", "a", "-", "\\");
        yes("[\\]", "]");
        no("[\\]", "\\");
        no("[a-\\]", "a", "]", "-", "\\");
        yes("[A-\\]", "B", "]");
        no("[^\\]]", "]");
        yes("[^\\]]", "\\", "a");
        no("[^\\^]", "^");
        yes("[^\\^]", "\\");
        no("[^\\", "\\");
        yes("[^\\", "a");
    }

    /** For each of the 256 bytes, the pattern's one thing says who fits. */
    private static void everyByteOfAThing() {
        WildCards x = new WildCards();
        Checks.setWord(x, Checks.allBytes());
        Checks.setPattern(x, "?");
        for (int b = 0; b < 256; b++) {
            Checks.due("byte " + b + " to ?", x.fitsPart(b, 1), true);
        }
        for (int own = 0; own < 256; own++) {
            x = new WildCards();
            Checks.setWord(x, Checks.allBytes());
            Checks.setPattern(x, "\\" + (char) own);
            for (int b = 0; b < 256; b++) {
                Checks.due("byte " + b + " to backslash and " + own, x.fitsPart(b, 1), b == own);
            }
        }
    }

    private static void longOnes() {
        yes("*".repeat(400), "", "a".repeat(400));
        yes("?".repeat(400), "a".repeat(400));
        no("?".repeat(400), "a".repeat(399));
        yes("*a".repeat(200), "a".repeat(200), "a".repeat(400), "ba".repeat(200));
        no("*a".repeat(200), "a".repeat(199), "a".repeat(399) + "b");
        no("*a".repeat(199) + "*b", "a".repeat(400));
        yes("?".repeat(399) + "*", "a".repeat(399), "a".repeat(400));
        no("?".repeat(399) + "*", "a".repeat(398));
        // Around the bounds of 64 and 128 things.
        for (int n : new int[] {63, 64, 65, 127, 128, 129, 383, 384, 385}) {
            yes("a".repeat(n), "a".repeat(n));
            no("a".repeat(n), "a".repeat(n - 1), "a".repeat(n + 1));
            yes("a".repeat(n) + "*", "a".repeat(n), "a".repeat(n) + "bc");
            yes("a".repeat(n) + "*b", "a".repeat(n) + "b", "a".repeat(n) + "xyb");
            no("a".repeat(n) + "*b", "a".repeat(n), "a".repeat(n - 1) + "b");
        }
        yes("[" + "a-c".repeat(133), "b");
        no("[^" + "a-c".repeat(132) + "]", "b");
    }

    private static void yes(String pattern, String... words) {
        look(pattern, words, true);
    }

    private static void no(String pattern, String... words) {
        look(pattern, words, false);
    }

    private static void look(String pattern, String[] words, boolean want) {
        for (String word : words) {
            Checks.fits(pattern, word, want);
        }
    }
}
