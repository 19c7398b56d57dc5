import java.util.NoSuchElementException;

/**
 * Writes data to a disc under two codes with their symbols strewn over many frames, lets the disc
 * be scratched, and reads it back: what is wrong is put right where that can be done, and told
 * where it can't.
 */
public final class DiscCoder {
    private static final int MOST_FRAMES = 48;
    private static final int DATA = 8;
    private static final int CHECKS = 4;
    private static final int INNER = 12;
    private static final int OUTER = 16;
    private static final int MOST_SYMBOL = 255;

    private final Word inner;
    private final Disc disc;
    private final Writer writer;
    private final Reader reader;

    public DiscCoder() {
        Word innerWord = new Word(INNER);
        Word outerWord = new Word(OUTER);
        Disc newDisc = new Disc();
        inner = innerWord;
        disc = newDisc;
        writer = new Writer(newDisc, innerWord, outerWord);
        reader = new Reader(newDisc, innerWord, outerWord);
    }

    public int feed(long data) throws IllegalStateException {
        if (disc.rowsWritten >= MOST_FRAMES) {
            throw new IllegalStateException("the disc is full");
        }
        return writer.writeFrame(data);
    }

    public int rows() {
        return disc.rowsWritten;
    }

    public int symbol(int row, int i) throws IndexOutOfBoundsException {
        if (!disc.has(row, i)) {
            throw new IndexOutOfBoundsException("no such symbol on the disc");
        }
        return disc.symbols[row * OUTER + i];
    }

    public void scratch(int row, int i, int by)
            throws IndexOutOfBoundsException, IllegalArgumentException, IllegalStateException {
        if (!disc.has(row, i)) {
            throw new IndexOutOfBoundsException("no such symbol on the disc");
        }
        if (!Field.holds(by)) {
            throw new IllegalArgumentException("what is added is no symbol");
        }
        if (row < disc.rowsRead) {
            throw new IllegalStateException("the row was read");
        }
        disc.symbols[row * OUTER + i] ^= by;
    }

    public void burst(int from, int many, int by)
            throws IllegalArgumentException, IndexOutOfBoundsException, IllegalStateException {
        if (many < 0 || !Field.holds(by)) {
            throw new IllegalArgumentException("fewer than none, or what is added is no symbol");
        }
        if (many == 0) {
            return;
        }
        // from + many could wrap around; the difference can't, as many is above 0.
        if (from < 0 || from > disc.rowsWritten * OUTER - many) {
            throw new IndexOutOfBoundsException("no such symbol on the disc");
        }
        if (from < disc.rowsRead * OUTER) {
            throw new IllegalStateException("a row was read");
        }
        for (int number = from; number < from + many; number++) {
            disc.symbols[number] ^= by;
        }
    }

    public int read() throws NoSuchElementException {
        if (disc.rowsRead >= disc.rowsWritten) {
            throw new NoSuchElementException("all rows were read");
        }
        return reader.readRow() ? 0 : DATA;
    }

    public int out(int i) throws IndexOutOfBoundsException {
        if (i < 0 || i >= disc.rowsRead * DATA) {
            throw new IndexOutOfBoundsException("no such symbol in the output");
        }
        return reader.output[i];
    }

    public boolean flagged(int i) throws IndexOutOfBoundsException {
        if (i < 0 || i >= disc.rowsRead * DATA) {
            throw new IndexOutOfBoundsException("no such symbol in the output");
        }
        return reader.lost[i / DATA];
    }

    public int figure(int k) throws IllegalArgumentException {
        switch (k) {
            case 0:
                return disc.rowsRead;
            case 1:
                return disc.rowsRead * DATA;
            case 2:
                return reader.wordsMended;
            case 3:
                return reader.wordsDoubted;
            case 4:
                return reader.symbolsFilled;
            case 5:
                return reader.wordsLost;
            case 6:
                return reader.wordsLost * DATA;
            default:
                throw new IllegalArgumentException("no such figure");
        }
    }

    public int check(long data, int k) throws IllegalArgumentException {
        if (k < 0 || k >= CHECKS) {
            throw new IllegalArgumentException("no such check");
        }
        inner.beginWith(data);
        inner.makeChecks();
        return inner.symbols[DATA + k];
    }

    public int product(int a, int b) throws IllegalArgumentException {
        if (!Field.holds(a) || !Field.holds(b)) {
            throw new IllegalArgumentException("no symbol");
        }
        return Field.times(a, b);
    }

    /** What can be done with symbols. */
    private static final class Field {
        private static final int BITS = 8;
        private static final int MODULUS = 0x11D;

        private Field() {
        }

        static boolean holds(int a) {
            return a >= 0 && a <= MOST_SYMBOL;
        }

        static int times(int a, int b) {
            int sum = 0;
            int shifted = a;
            for (int bit = 0; bit < BITS; bit++) {
                if ((b >> bit & 1) != 0) {
                    sum ^= shifted;
                }
                shifted <<= 1;
                if (shifted > MOST_SYMBOL) {
                    shifted ^= MODULUS;
                }
            }
            return sum;
        }

        /** The symbol whose product with a is 1; 0 if a is 0. */
        static int inverse(int a) {
            // a to the 255 is 1, so the inverse is a to the 254 = 2 + 4 + .. + 128.
            int power = a;
            int result = 1;
            for (int bit = 1; bit < BITS; bit++) {
                power = times(power, power);
                result = times(result, power);
            }
            return result;
        }
    }

    /** A row of symbols to work on; every call that uses it lays its symbols anew first. */
    private static final class Word {
        private final int size;
        private final int[] symbols;
        private final boolean[] doubted;
        /** E(size - 1 - i) for symbol i. */
        private final int[] locators;
        /** The sums that are all 0 in a word. */
        private final int[] sums;
        private final int[] doubtedAt;
        private final int[] changes;
        private final int[] weights;

        Word(int size) {
            this.size = size;
            symbols = new int[size];
            doubted = new boolean[size];
            locators = new int[size];
            sums = new int[CHECKS];
            doubtedAt = new int[CHECKS];
            changes = new int[CHECKS];
            weights = new int[CHECKS];
            int locator = 1;
            for (int i = size - 1; i >= 0; i--) {
                locators[i] = locator;
                locator = Field.times(locator, 2);
            }
        }

        void beginWith(long data) {
            for (int i = 0; i < DATA; i++) {
                symbols[i] = (int) (data >>> (8 * i)) & MOST_SYMBOL;
            }
        }

        void makeChecks() {
            for (int i = 0; i < size; i++) {
                doubted[i] = i >= size - CHECKS;
            }
            fillDoubted();
        }

        boolean isWord() {
            makeSums();
            for (int k = 0; k < CHECKS; k++) {
                if (sums[k] != 0) {
                    return false;
                }
            }
            return true;
        }

        private void makeSums() {
            int rate = 1;
            for (int k = 0; k < CHECKS; k++) {
                int sum = 0;
                for (int i = 0; i < size; i++) {
                    sum = Field.times(sum, rate) ^ symbols[i];
                }
                sums[k] = sum;
                rate = Field.times(rate, 2);
            }
        }

        /** Makes what is no word one by a change of one symbol: whether that was done. */
        boolean mendOne() {
            if (isWord()) {
                return false;
            }
            for (int i = 0; i < size; i++) {
                if (isOnlyFault(i)) {
                    symbols[i] ^= sums[0];
                    return true;
                }
            }
            return false;
        }

        /** Whether the sums are those that a fault of the size sums[0] at i alone leaves. */
        private boolean isOnlyFault(int i) {
            int expected = sums[0];
            for (int k = 1; k < CHECKS; k++) {
                expected = Field.times(expected, locators[i]);
                if (expected != sums[k]) {
                    return false;
                }
            }
            return true;
        }

        int countDoubted() {
            int many = 0;
            for (int i = 0; i < size; i++) {
                if (doubted[i]) {
                    many++;
                }
            }
            return many;
        }

        /** Makes it a word by values for the doubted symbols: whether there are such values. */
        boolean fillDoubted() {
            int many = countDoubted();
            if (many > CHECKS) {
                return false;
            }
            listDoubted();
            makeSums();
            for (int m = 0; m < many; m++) {
                changes[m] = changeAt(m, many);
            }
            addChanges(many);
            if (isWord()) {
                return true;
            }
            // Added by xor once more, the changes are taken back.
            addChanges(many);
            return false;
        }

        private void listDoubted() {
            int many = 0;
            for (int i = 0; i < size; i++) {
                if (doubted[i] && many < CHECKS) {
                    doubtedAt[many] = i;
                    many++;
                }
            }
        }

        private void addChanges(int many) {
            for (int m = 0; m < many; m++) {
                symbols[doubtedAt[m]] ^= changes[m];
            }
        }

        /** The change of doubted symbol m if only the doubted symbols are wrong. */
        private int changeAt(int m, int many) {
            // The polynomial whose roots are the locators of the other doubted symbols is 0 at
            // them all: the sums weighted with its coefficients have only the change at m left.
            int own = locators[doubtedAt[m]];
            int valueAtOwn = 1;
            startWeights();
            for (int other = 0; other < many; other++) {
                if (other != m) {
                    int root = locators[doubtedAt[other]];
                    addRoot(root);
                    valueAtOwn = Field.times(valueAtOwn, own ^ root);
                }
            }
            return Field.times(weightedSums(), Field.inverse(valueAtOwn));
        }

        private void startWeights() {
            weights[0] = 1;
            for (int k = 1; k < CHECKS; k++) {
                weights[k] = 0;
            }
        }

        private void addRoot(int root) {
            for (int k = CHECKS - 1; k > 0; k--) {
                weights[k] = Field.times(weights[k], root) ^ weights[k - 1];
            }
            weights[0] = Field.times(weights[0], root);
        }

        private int weightedSums() {
            int sum = 0;
            for (int k = 0; k < CHECKS; k++) {
                sum ^= Field.times(weights[k], sums[k]);
            }
            return sum;
        }
    }

    /** The rows as they are now, and how far they were written and read. */
    private static final class Disc {
        private static final int FIRST_TURNED = 8;

        private final int[] symbols;
        private int rowsWritten;
        private int rowsRead;

        Disc() {
            symbols = new int[MOST_FRAMES * OUTER];
        }

        boolean has(int row, int i) {
            return row >= 0 && row < rowsWritten && i >= 0 && i < OUTER;
        }

        void setPlain(int row, int i, int plain) {
            symbols[row * OUTER + i] = turned(i, plain);
        }

        int getPlain(int row, int i) {
            return has(row, i) ? turned(i, symbols[row * OUTER + i]) : 0;
        }

        private static int turned(int i, int symbol) {
            return i < FIRST_TURNED ? symbol : MOST_SYMBOL - symbol;
        }
    }

    /** Makes the words of the frames, which stay as they were fed when the disc is scratched. */
    private static final class Writer {
        private final Disc disc;
        private final Word inner;
        private final Word outer;
        private final int[][] innerWords;
        private final int[] outerBefore;

        Writer(Disc disc, Word inner, Word outer) {
            this.disc = disc;
            this.inner = inner;
            this.outer = outer;
            innerWords = new int[MOST_FRAMES][INNER];
            outerBefore = new int[OUTER];
        }

        /** Writes a frame, for which there must be room: its number. */
        int writeFrame(long data) {
            int frame = disc.rowsWritten;
            makeInner(frame, data);
            makeOuter(frame);
            writeRow(frame);
            disc.rowsWritten++;
            return frame;
        }

        private void makeInner(int frame, long data) {
            inner.beginWith(data);
            inner.makeChecks();
            for (int j = 0; j < INNER; j++) {
                innerWords[frame][j] = inner.symbols[j];
            }
        }

        private void makeOuter(int frame) {
            for (int j = 0; j < INNER; j++) {
                outer.symbols[j] = frame >= j ? innerWords[frame - j][j] : 0;
            }
            outer.makeChecks();
        }

        private void writeRow(int frame) {
            for (int i = 0; i < OUTER; i++) {
                disc.setPlain(frame, i, i % 2 == 0 ? outer.symbols[i] : outerBefore[i]);
                outerBefore[i] = outer.symbols[i];
            }
        }
    }

    /** Puts right what is read and keeps the output and the figures. */
    private static final class Reader {
        private final Disc disc;
        private final Word inner;
        private final Word outer;
        /** Line t has the first symbols of the outer word t - 1, put right when row t is read. */
        private final int[][] outerWords;
        private final boolean[] outerDoubted;
        private final int[] output;
        private final boolean[] lost;
        private int wordsMended;
        private int wordsDoubted;
        private int symbolsFilled;
        private int wordsLost;

        Reader(Disc disc, Word inner, Word outer) {
            this.disc = disc;
            this.inner = inner;
            this.outer = outer;
            outerWords = new int[MOST_FRAMES][INNER];
            outerDoubted = new boolean[MOST_FRAMES];
            output = new int[MOST_FRAMES * DATA];
            lost = new boolean[MOST_FRAMES];
        }

        /** Reads the next row, which must be there: whether its inner word is good. */
        boolean readRow() {
            int row = disc.rowsRead;
            gatherOuter(row);
            rightOuter(row);
            gatherInner(row);
            rightInner(row);
            disc.rowsRead++;
            return !lost[row];
        }

        private void gatherOuter(int row) {
            for (int i = 0; i < OUTER; i++) {
                outer.symbols[i] = disc.getPlain(i % 2 == 0 ? row - 1 : row, i);
            }
        }

        private void rightOuter(int row) {
            if (outer.mendOne()) {
                wordsMended++;
            } else if (!outer.isWord()) {
                outerDoubted[row] = true;
                wordsDoubted++;
            }
            for (int j = 0; j < INNER; j++) {
                outerWords[row][j] = outer.symbols[j];
            }
        }

        private void gatherInner(int row) {
            for (int j = 0; j < INNER; j++) {
                int line = row - (INNER - 1) + j;
                inner.symbols[j] = line >= 0 ? outerWords[line][j] : 0;
                inner.doubted[j] = line >= 0 && outerDoubted[line];
            }
        }

        private void rightInner(int row) {
            if (inner.fillDoubted()) {
                symbolsFilled += inner.countDoubted();
            } else {
                lost[row] = true;
                wordsLost++;
            }
            for (int i = 0; i < DATA; i++) {
                output[row * DATA + i] = inner.symbols[i];
            }
        }
    }
}
