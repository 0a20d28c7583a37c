import java.util.ArrayList;
import java.util.BitSet;
import java.util.List;
import java.util.regex.Pattern;

/**
 * Every pattern of up to four bytes of those that mean something, beside Java's own regular
 * expressions: one more way to read "Terms", which shares nothing with PlainModelTest's.
 */
public final class ShortPatternsTest {
    private static final String BYTES = "?*[]^-\\aZ";
    private static final int LONGEST = 4;

    public static void main(String[] args) {
        List<String> words = words();
        for (String pattern : patterns()) {
            look(pattern, words);
        }
        Checks.finish();
    }

    private static List<String> patterns() {
        List<String> all = new ArrayList<>(List.of(""));
        // Those that are added are made longer in their turn.
        for (int i = 0; i < all.size() && all.get(i).length() < LONGEST; i++) {
            for (char c : BYTES.toCharArray()) {
                all.add(all.get(i) + c);
            }
        }
        return all;
    }

    private static List<String> words() {
        List<String> words = new ArrayList<>(List.of("", "aZa", "a-Z", "]-]", "\\]a"));
        for (char c : (BYTES + "b.\0\u00ff").toCharArray()) {
            words.add("" + c);
        }
        for (char c : "?]-\\a".toCharArray()) {
            for (char d : "*^-\\aZ".toCharArray()) {
                words.add("" + c + d);
            }
        }
        return words;
    }

    private static void look(String pattern, List<String> words) {
        Pattern expression = Pattern.compile(expressionOf(tokensOf(pattern)));
        WildCards x = new WildCards();
        Checks.setPattern(x, pattern);
        for (String word : words) {
            Checks.setWord(x, word);
            String name = " of \"" + word + "\" to \"" + pattern + "\"";
            Checks.due("fits()" + name, x.fits(), expression.matcher(word).matches());
            int beginnings = 0;
            for (int n = 0; n <= word.length(); n++) {
                beginnings += expression.matcher(word.substring(0, n)).matches() ? 1 : 0;
            }
            Checks.due("beginnings()" + name, x.beginnings(), beginnings);
        }
    }

    /** A pattern's byte, or a backslash and the byte behind it. */
    private record Token(char value, boolean isItself) {
        boolean means(char sign) {
            return value == sign && !isItself;
        }
    }

    private static List<Token> tokensOf(String pattern) {
        List<Token> tokens = new ArrayList<>();
        for (int i = 0; i < pattern.length(); i++) {
            boolean escapes = pattern.charAt(i) == '\\' && i + 1 < pattern.length();
            if (escapes) {
                i++;
            }
            tokens.add(new Token(pattern.charAt(i), escapes));
        }
        return tokens;
    }

    private static String expressionOf(List<Token> tokens) {
        StringBuilder expression = new StringBuilder();
        int at = 0;
        while (at < tokens.size()) {
            Token token = tokens.get(at);
            at++;
            if (token.means('?')) {
                expression.append("[\\x00-\\xff]");
            } else if (token.means('*')) {
                expression.append("[\\x00-\\xff]*");
            } else if (token.means('[')) {
                int close = at;
                while (close < tokens.size() && !tokens.get(close).means(']')) {
                    close++;
                }
                expression.append(oneOf(tokens.subList(at, close)));
                at = Math.min(close + 1, tokens.size());
            } else {
                expression.append(itself(token.value()));
            }
        }
        return expression.toString();
    }

    private static String oneOf(List<Token> told) {
        boolean others = !told.isEmpty() && told.get(0).means('^');
        BitSet bytes = bytesOf(others ? told.subList(1, told.size()) : told);
        if (others) {
            bytes.flip(0, 256);
        }
        StringBuilder expression = new StringBuilder();
        bytes.stream().forEach(b -> expression.append(itself(b)));
        return bytes.isEmpty() ? "(?!)" : "[" + expression + "]";
    }

    private static BitSet bytesOf(List<Token> told) {
        BitSet bytes = new BitSet(256);
        int at = 0;
        while (at < told.size()) {
            char low = told.get(at).value();
            boolean isRange = at + 2 < told.size() && told.get(at + 1).means('-');
            char high = isRange ? told.get(at + 2).value() : low;
            if (low <= high) {
                bytes.set(low, high + 1);
            }
            at += isRange ? 3 : 1;
        }
        return bytes;
    }

    private static String itself(int b) {
        return String.format("\\x%02x", b);
    }
}
