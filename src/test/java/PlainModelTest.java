import java.util.Arrays;
import java.util.Random;

/**
 * Runs of 512 calls beside a model that is written as the document reads: it keeps the bytes as
 * they came and tries every parting of the word. The runs are the same each time.
 */
public final class PlainModelTest {
    // The runs take turns: patterns with brackets of all sorts, and long words that often fit.
    private static final String[] COMMON = {"ab-]^[\\*?c\u0080\u00ff", "aaaab*?"};
    private static final int RUNS = 400;
    private static final int CALLS = 512;

    public static void main(String[] args) {
        for (int run = 0; run < RUNS; run++) {
            aRun(new Random(run), COMMON[run % 2], "run " + run + ", ");
        }
        Checks.finish();
    }

    private static void aRun(Random random, String common, String name) {
        WildCards x = new WildCards();
        Model model = new Model();
        for (int call = 0; call < CALLS; call++) {
            aCall(random, common, x, model, name + "call " + call + ": ");
        }
    }

    private static void aCall(Random random, String common, WildCards x, Model model, String name) {
        switch (random.nextInt(12)) {
            case 0, 1, 2 -> {
                int[] n = new int[5];
                Arrays.setAll(n, i -> number(random, common));
                Checks.due(name + "feed", x.feed(n[0], n[1], n[2], n[3], n[4]), model.feed(n));
            }
            case 3, 4 -> {
                int n = random.nextInt(10) == 0 ? random.nextInt() : random.nextInt(14) - 1;
                Checks.due(name + "end(" + n + ")", x.end(n), model.end(n));
            }
            case 5, 6 -> Checks.due(name + "pattern()", x.pattern(), model.pattern());
            case 7, 8 -> Checks.due(name + "word()", x.word(), model.word());
            case 9 -> Checks.due(name + "fits() " + model, x.fits(), model.fits());
            case 10 -> {
                int from = random.nextInt(8) - 1;
                int n = random.nextInt(8) - 1;
                Checks.due(name + "fitsPart(" + from + ", " + n + ") " + model,
                        x.fitsPart(from, n), model.fitsPart(from, n));
            }
            default -> Checks.due(name + "beginnings() " + model, x.beginnings(), model.beginnings());
        }
    }

    private static int number(Random random, String common) {
        int number = 0;
        for (int i = 0; i < 4; i++) {
            int b = random.nextInt(20) == 0 ? random.nextInt(256) : common.charAt(random.nextInt(common.length()));
            number = number << 8 | b;
        }
        return number;
    }

    private static final class Model {
        private int[] tape = {};
        private int[] pattern = {};
        private int[] word = {};

        boolean feed(int[] numbers) {
            if (tape.length + 20 > 400) {
                return false;
            }
            int at = tape.length;
            tape = Arrays.copyOf(tape, at + 20);
            for (int number : numbers) {
                tape[at++] = number >> 24 & 255;
                tape[at++] = number >> 16 & 255;
                tape[at++] = number >> 8 & 255;
                tape[at++] = number & 255;
            }
            return true;
        }

        boolean end(int n) {
            if (n < 0 || n > tape.length) {
                return false;
            }
            tape = Arrays.copyOf(tape, n);
            return true;
        }

        int pattern() {
            pattern = tape;
            tape = new int[0];
            return pattern.length;
        }

        int word() {
            word = tape;
            tape = new int[0];
            return word.length;
        }

        boolean fits() {
            return fitsPart(0, word.length);
        }

        boolean fitsPart(int from, int n) {
            if (from < 0 || n < 0 || (long) from + n > word.length) {
                return false;
            }
            return fits(0, from, from + n, new Boolean[pattern.length + 1][word.length + 1]);
        }

        int beginnings() {
            int count = 0;
            for (int n = 0; n <= word.length; n++) {
                count += fitsPart(0, n) ? 1 : 0;
            }
            return count;
        }

        /** Whether the word from w to end can be parted among the things from p on. */
        private boolean fits(int p, int w, int end, Boolean[][] known) {
            if (known[p][w] == null) {
                known[p][w] = partedAmong(p, w, end, known);
            }
            return known[p][w];
        }

        private boolean partedAmong(int p, int w, int end, Boolean[][] known) {
            if (p == pattern.length) {
                return w == end;
            }
            if (pattern[p] == '*') {
                return fits(p + 1, w, end, known) || w < end && fits(p, w + 1, end, known);
            }
            return w < end && takes(p, word[w]) && fits(behind(p), w + 1, end, known);
        }

        private boolean takes(int p, int b) {
            if (pattern[p] == '?') {
                return true;
            }
            if (pattern[p] == '[') {
                boolean others = p + 1 < pattern.length && pattern[p + 1] == '^';
                return isTold(others ? p + 2 : p + 1, b) != others;
            }
            return b == pattern[valueAt(p)];
        }

        private boolean isTold(int p, int b) {
            boolean told = false;
            int at = p;
            while (at < pattern.length && pattern[at] != ']') {
                int low = valueAt(at);
                boolean range = low + 2 < pattern.length && pattern[low + 1] == '-' && pattern[low + 2] != ']';
                int high = range ? valueAt(low + 2) : low;
                told |= pattern[low] <= b && b <= pattern[high];
                at = high + 1;
            }
            return told;
        }

        /** Where the thing that begins at p ends: the place behind it. */
        private int behind(int p) {
            if (pattern[p] != '[') {
                return pattern[p] == '?' ? p + 1 : valueAt(p) + 1;
            }
            int at = p + 1;
            while (at < pattern.length && pattern[at] != ']') {
                at = valueAt(at) + 1;
            }
            return Math.min(at + 1, pattern.length);
        }

        /** The place of the byte that stands for itself at p: behind a backslash the next one. */
        private int valueAt(int p) {
            return pattern[p] == '\\' && p + 1 < pattern.length ? p + 1 : p;
        }

        @Override
        public String toString() {
            return "of " + text(word) + " to " + text(pattern);
        }

        private static String text(int[] bytes) {
            StringBuilder text = new StringBuilder("\"");
            for (int b : bytes) {
                text.append((char) b);
            }
            return text.append('"').toString();
        }
    }
}
