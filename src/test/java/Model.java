import java.util.ArrayList;
import java.util.List;
import java.util.NoSuchElementException;

/**
 * The document's words, done the slow way: everything is made anew from the data by definition,
 * one change is sought among all changes, and doubted symbols by Gauss's elimination.
 */
final class Model {
    private static final int[][] PRODUCTS = products();

    private final List<int[]> frames = new ArrayList<>();
    private final List<int[]> disc = new ArrayList<>();
    private final List<int[]> outerRead = new ArrayList<>();
    private final List<Boolean> outerDoubted = new ArrayList<>();
    private final List<Integer> output = new ArrayList<>();
    private final List<Boolean> flags = new ArrayList<>();
    private int rowsRead;
    private int mended;
    private int doubted;
    private int filled;
    private int lost;
    /** How many inner words there were with so many doubted symbols: good, and lost. */
    final int[] goodWith = new int[13];
    final int[] lostWith = new int[13];

    static int polynomialProduct(int a, int b) {
        int sum = 0;
        for (int k = 0; k < 8; k++) {
            for (int l = 0; l < 8; l++) {
                sum ^= ((a >> k & 1) & (b >> l & 1)) << (k + l);
            }
        }
        for (int k = 14; k >= 8; k--) {
            if ((sum >> k & 1) == 1) {
                sum ^= 0b100011101 << (k - 8);
            }
        }
        return sum;
    }

    private static int[][] products() {
        int[][] table = new int[256][256];
        for (int a = 0; a < 256; a++) {
            for (int b = 0; b < 256; b++) {
                table[a][b] = polynomialProduct(a, b);
            }
        }
        return table;
    }

    static int e(int k) {
        int power = 1;
        for (int i = 0; i < k; i++) {
            power = PRODUCTS[2][power];
        }
        return power;
    }

    static int sum(int[] c, int k) {
        int sum = 0;
        for (int i = 0; i < c.length; i++) {
            if (c[i] != 0) {
                sum ^= k == 0 ? c[i] : PRODUCTS[c[i]][e(k * (c.length - 1 - i))];
            }
        }
        return sum;
    }

    static boolean isWord(int[] c) {
        return sum(c, 0) == 0 && sum(c, 1) == 0 && sum(c, 2) == 0 && sum(c, 3) == 0;
    }

    /** The values of the doubted symbols that make c a word are put in: whether there are some. */
    static boolean solve(int[] c, List<Integer> places) {
        int unknowns = places.size();
        int[][] lines = new int[4][unknowns + 1];
        int[] known = c.clone();
        for (int place : places) {
            known[place] = 0;
        }
        for (int k = 0; k < 4; k++) {
            for (int u = 0; u < unknowns; u++) {
                lines[k][u] = e(k * (c.length - 1 - places.get(u)));
            }
            lines[k][unknowns] = sum(known, k);
        }
        eliminate(lines, unknowns);
        for (int k = unknowns; k < 4; k++) {
            if (lines[k][unknowns] != 0) {
                return false;
            }
        }
        for (int u = 0; u < unknowns; u++) {
            c[places.get(u)] = lines[u][unknowns];
        }
        return true;
    }

    private static void eliminate(int[][] lines, int unknowns) {
        for (int u = 0; u < unknowns; u++) {
            int pivot = u;
            while (lines[pivot][u] == 0) {
                pivot++;
            }
            int[] line = lines[pivot];
            lines[pivot] = lines[u];
            lines[u] = line;
            int inverse = 1;
            while (PRODUCTS[inverse][line[u]] != 1) {
                inverse++;
            }
            for (int v = 0; v <= unknowns; v++) {
                line[v] = PRODUCTS[inverse][line[v]];
            }
            for (int k = 0; k < 4; k++) {
                int times = lines[k][u];
                for (int v = 0; k != u && v <= unknowns; v++) {
                    lines[k][v] ^= PRODUCTS[times][line[v]];
                }
            }
        }
    }

    static int[] wordFrom(int[] beginning) {
        int n = beginning.length + 4;
        int[] c = new int[n];
        System.arraycopy(beginning, 0, c, 0, beginning.length);
        solve(c, List.of(n - 4, n - 3, n - 2, n - 1));
        if (!isWord(c)) {
            throw new AssertionError("the model itself is wrong");
        }
        return c;
    }

    static int[] bytes(long data) {
        int[] bytes = new int[8];
        for (int i = 0; i < 8; i++) {
            bytes[i] = (int) (data >>> 8 * i & 255);
        }
        return bytes;
    }

    private int[] w(int t) {
        return t < 0 ? new int[12] : frames.get(t);
    }

    private int[] x(int t) {
        int[] beginning = new int[12];
        for (int j = 0; t >= 0 && j < 12; j++) {
            beginning[j] = w(t - j)[j];
        }
        return wordFrom(beginning);
    }

    int feed(long data) {
        if (frames.size() == 48) {
            throw new IllegalStateException();
        }
        int t = frames.size();
        frames.add(wordFrom(bytes(data)));
        int[] now = x(t);
        int[] before = x(t - 1);
        int[] row = new int[16];
        for (int i = 0; i < 16; i++) {
            int plain = i % 2 == 0 ? now[i] : before[i];
            row[i] = i < 8 ? plain : 255 - plain;
        }
        disc.add(row);
        return t;
    }

    int rows() {
        return disc.size();
    }

    private void needSymbol(int row, int i) {
        if (row < 0 || row >= disc.size() || i < 0 || i > 15) {
            throw new IndexOutOfBoundsException();
        }
    }

    int symbol(int row, int i) {
        needSymbol(row, i);
        return disc.get(row)[i];
    }

    void scratch(int row, int i, int by) {
        needSymbol(row, i);
        if (by < 0 || by > 255) {
            throw new IllegalArgumentException();
        }
        if (row < rowsRead) {
            throw new IllegalStateException();
        }
        disc.get(row)[i] ^= by;
    }

    void burst(int from, int many, int by) {
        if (many < 0 || by < 0 || by > 255) {
            throw new IllegalArgumentException();
        }
        long end = (long) from + many;
        if (many > 0 && (from < 0 || end > 16L * disc.size())) {
            throw new IndexOutOfBoundsException();
        }
        for (long n = from; n < end; n++) {
            if (n / 16 < rowsRead) {
                throw new IllegalStateException();
            }
        }
        for (long n = from; n < end; n++) {
            disc.get((int) (n / 16))[(int) (n % 16)] ^= by;
        }
    }

    private int plain(int row, int i) {
        if (row < 0) {
            return 0;
        }
        return i < 8 ? disc.get(row)[i] : 255 - disc.get(row)[i];
    }

    int read() {
        if (rowsRead == disc.size()) {
            throw new NoSuchElementException();
        }
        int t = rowsRead++;
        readOuter(t);
        int[] c = new int[12];
        List<Integer> places = new ArrayList<>();
        for (int j = 0; j < 12; j++) {
            int number = t - 12 + j;
            c[j] = number < -1 ? 0 : outerRead.get(number + 1)[j];
            if (number >= -1 && outerDoubted.get(number + 1)) {
                places.add(j);
            }
        }
        boolean good = places.size() <= 4 && solve(c, places);
        if (good) {
            filled += places.size();
            goodWith[places.size()]++;
        } else {
            lost++;
            lostWith[places.size()]++;
        }
        for (int i = 0; i < 8; i++) {
            output.add(c[i]);
            flags.add(!good);
        }
        return good ? 0 : 8;
    }

    private void readOuter(int t) {
        int[] c = new int[16];
        for (int i = 0; i < 16; i++) {
            c[i] = plain(i % 2 == 1 ? t : t - 1, i);
        }
        boolean isDoubted = false;
        if (!isWord(c)) {
            isDoubted = !changeOne(c);
            mended += isDoubted ? 0 : 1;
            doubted += isDoubted ? 1 : 0;
        }
        outerRead.add(c);
        outerDoubted.add(isDoubted);
    }

    private static boolean changeOne(int[] c) {
        for (int i = 0; i < c.length; i++) {
            int was = c[i];
            for (int value = 0; value < 256; value++) {
                c[i] = value;
                if (isWord(c)) {
                    return true;
                }
            }
            c[i] = was;
        }
        return false;
    }

    int out(int i) {
        if (i < 0 || i >= output.size()) {
            throw new IndexOutOfBoundsException();
        }
        return output.get(i);
    }

    boolean flagged(int i) {
        if (i < 0 || i >= flags.size()) {
            throw new IndexOutOfBoundsException();
        }
        return flags.get(i);
    }

    int figure(int k) {
        int flaggedNow = 0;
        for (boolean flag : flags) {
            flaggedNow += flag ? 1 : 0;
        }
        int[] figures = {rowsRead, output.size(), mended, doubted, filled, lost, flaggedNow};
        if (k < 0 || k >= figures.length) {
            throw new IllegalArgumentException();
        }
        return figures[k];
    }

    int check(long data, int k) {
        if (k < 0 || k > 3) {
            throw new IllegalArgumentException();
        }
        return wordFrom(bytes(data))[8 + k];
    }

    int product(int a, int b) {
        if (a < 0 || a > 255 || b < 0 || b > 255) {
            throw new IllegalArgumentException();
        }
        return polynomialProduct(a, b);
    }
}
