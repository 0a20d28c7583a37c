import java.io.IOException;
import java.nio.file.Files;
import java.nio.file.Path;
import java.util.Arrays;

/**
 * The document's sentences under one heading. A test quotes each of them where it looks at it; a
 * quote that the document does not have, or a sentence that nobody quoted, counts as a wrong answer.
 */
final class Sentences {
    private static String text = null;
    private static boolean[] quoted = {};

    private Sentences() {
    }

    static void under(String heading) {
        String document = document();
        if (document == null) {
            System.out.println("(the document is not here: the quotes are not compared with it)");
            return;
        }
        int from = document.indexOf("\n## " + heading + "\n");
        Checks.due("the heading \"" + heading + "\" is in the document", from >= 0, true);
        String behind = from < 0 ? "" : document.substring(from + heading.length() + 5);
        int next = behind.indexOf("\n## ");
        // A promise begins with the method's head in backticks, which FaceTest looks at.
        text = (next < 0 ? behind : behind.substring(0, next)).strip()
                .replaceAll("\\s+", " ").replaceFirst("^`[^`]*`: ", "");
        quoted = new boolean[text.length()];
    }

    /** The checks that follow are of this sentence, or of this part of one. */
    static void quote(String words) {
        Checks.about(words);
        if (text == null) {
            return;
        }
        int at = text.indexOf(words);
        Checks.due("this is in the document", at >= 0, true);
        for (; at >= 0; at = text.indexOf(words, at + 1)) {
            Arrays.fill(quoted, at, at + words.length(), true);
        }
    }

    /** The last line of a test that quotes. */
    static void finish() {
        Checks.about("");
        StringBuilder left = new StringBuilder();
        for (int i = 0; i < quoted.length; i++) {
            left.append(!quoted[i] && Character.isLetterOrDigit(text.charAt(i)) ? text.charAt(i) : ' ');
        }
        Checks.due("what no test quotes", left.toString().strip().replaceAll("\\s+", " "), "");
        Checks.finish();
    }

    /** .ci/run tells where the document is; null without it. */
    private static String document() {
        String place = System.getProperty("document", "");
        try {
            return place.isEmpty() ? null : Files.readString(Path.of(place));
        } catch (IOException e) {
            return null;
        }
    }
}
