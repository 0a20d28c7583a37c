import java.util.Arrays;

/** Patterns of bytes and the words that fit them. */
public final class WildCards {
    public static final int NONE = -1;

    private static final int TAPE_LIMIT = 400;
    private static final int BYTES_A_FEED = 20;
    private static final int BYTE_VALUES = 256;

    private final int[] tape;
    private int tapeLength;
    private final int[] letters;
    private int letterCount;
    private final Things things;

    public WildCards() {
        tape = new int[TAPE_LIMIT];
        letters = new int[TAPE_LIMIT];
        things = new Things();
    }

    public boolean feed(int a, int b, int c, int d, int e) {
        if (tapeLength > TAPE_LIMIT - BYTES_A_FEED) {
            return false;
        }
        append(a);
        append(b);
        append(c);
        append(d);
        append(e);
        return true;
    }

    public boolean end(int n) {
        if (n < 0 || n > tapeLength) {
            return false;
        }
        tapeLength = n;
        return true;
    }

    public int pattern() {
        int count = tapeLength;
        things.clear();
        new Reader(tape, count, things).readAll();
        tapeLength = 0;
        return count;
    }

    public int word() {
        int count = tapeLength;
        System.arraycopy(tape, 0, letters, 0, count);
        letterCount = count;
        tapeLength = 0;
        return count;
    }

    public boolean fits() {
        return lettersFit(0, letterCount);
    }

    public boolean fitsPart(int from, int n) {
        // The sum from + n could wrap around, the difference can't; it is below 0 behind the word.
        if (from < 0 || n < 0 || n > letterCount - from) {
            return false;
        }
        return lettersFit(from, from + n);
    }

    public int beginnings() {
        things.start();
        int fitting = things.endIsReached() ? 1 : 0;
        for (int i = 0; i < letterCount; i++) {
            things.step(letters[i]);
            if (things.endIsReached()) {
                fitting++;
            }
        }
        return fitting;
    }

    /** Only feed calls this, having seen that the tape has room. */
    private void append(int number) {
        for (int shift = 24; shift >= 0; shift -= 8) {
            tape[tapeLength] = (number >>> shift) & 255;
            tapeLength++;
        }
    }

    private boolean lettersFit(int from, int behind) {
        things.start();
        for (int i = from; i < behind; i++) {
            things.step(letters[i]);
        }
        return things.endIsReached();
    }

    /**
     * A pattern's things, and the places between them that the bytes of a word have reached.
     *
     * <p>Place k lies before the thing k of those that take one byte. A star is no thing of this
     * row: it is a loop at its place, which any byte may take. So every step reads one byte, and
     * all places that can be reached are held at once, a bit each: no way has to be tried again.
     */
    private static final class Things {
        private static final int BITS = 64;
        // A pattern has at most TAPE_LIMIT things, so one place more.
        private static final int ROW = TAPE_LIMIT / BITS + 1;

        // For each byte a row of the things that take it.
        private final long[] takers;
        private final long[] loops;
        private final long[] reached;
        private int count;

        Things() {
            takers = new long[BYTE_VALUES * ROW];
            loops = new long[ROW];
            reached = new long[ROW];
        }

        void clear() {
            Arrays.fill(takers, 0L);
            Arrays.fill(loops, 0L);
            count = 0;
        }

        void addLoop() {
            loops[count / BITS] |= bitOf(count);
        }

        /** Whether the thing that is being told takes the bytes from low to high. */
        void tell(int low, int high, boolean taken) {
            int first = Math.max(low, 0);
            int last = Math.min(high, BYTE_VALUES - 1);
            for (int b = first; b <= last; b++) {
                int at = b * ROW + count / BITS;
                if (taken) {
                    takers[at] |= bitOf(count);
                } else {
                    takers[at] &= ~bitOf(count);
                }
            }
        }

        /** The thing has been told: what comes is of the next. */
        void close() {
            if (count < TAPE_LIMIT) {
                count++;
            }
        }

        void start() {
            Arrays.fill(reached, 0L);
            reached[0] = 1L;
        }

        void step(int letter) {
            int row = (letter & 255) * ROW;
            long carried = 0L;
            for (int i = 0; i < ROW; i++) {
                long moving = reached[i] & takers[row + i];
                long staying = reached[i] & loops[i];
                reached[i] = (moving << 1) | carried | staying;
                carried = moving >>> (BITS - 1);
            }
        }

        boolean endIsReached() {
            return (reached[count / BITS] & bitOf(count)) != 0L;
        }

        private static long bitOf(int place) {
            return 1L << (place % BITS);
        }
    }

    /** Reads a pattern's bytes once, from the first to the last, and tells its things. */
    private static final class Reader {
        private static final int ANY_ONE = '?';
        private static final int ANY_MANY = '*';
        private static final int OPEN = '[';
        private static final int CLOSE = ']';
        private static final int OTHERS = '^';
        private static final int UP_TO = '-';
        private static final int ITSELF = '\\';

        private final int[] bytes;
        private final int length;
        private final Things things;
        private int at;

        Reader(int[] bytes, int length, Things things) {
            this.bytes = bytes;
            this.length = length;
            this.things = things;
        }

        void readAll() {
            // Each round reads a byte at least, so there are no more rounds than bytes.
            for (int round = 0; round < length && at < length; round++) {
                readThing();
            }
        }

        private void readThing() {
            int b = byteAt(at);
            if (b == ANY_MANY) {
                at++;
                things.addLoop();
                return;
            }
            if (b == ANY_ONE) {
                at++;
                things.tell(0, BYTE_VALUES - 1, true);
            } else if (b == OPEN) {
                at++;
                readBrackets();
            } else {
                int itself = readByte();
                things.tell(itself, itself, true);
            }
            things.close();
        }

        private void readBrackets() {
            boolean taken = byteAt(at) != OTHERS;
            if (!taken) {
                at++;
                things.tell(0, BYTE_VALUES - 1, true);
            }
            for (int round = 0; round < length && !bracketsEndAt(at); round++) {
                readTold(taken);
            }
            at++;
        }

        private void readTold(boolean taken) {
            int low = readByte();
            int high = low;
            if (byteAt(at) == UP_TO && !bracketsEndAt(at + 1)) {
                at++;
                high = readByte();
            }
            things.tell(low, high, taken);
        }

        private boolean bracketsEndAt(int place) {
            int b = byteAt(place);
            return b == CLOSE || b == NONE;
        }

        /** The next byte; of a backslash and a byte behind it, the latter. */
        private int readByte() {
            int b = byteAt(at);
            at++;
            if (b == ITSELF && at < length) {
                b = byteAt(at);
                at++;
            }
            return b;
        }

        private int byteAt(int place) {
            return place >= 0 && place < length ? bytes[place] : NONE;
        }
    }
}
