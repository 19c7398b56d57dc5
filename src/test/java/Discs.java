import java.util.List;

/** What the tests of discs have in common: discs that were fed, and damage of a known kind. */
abstract class Discs {
    static final String STATE = "throws.IllegalStateException";
    static final String ARGUMENT = "throws.IllegalArgumentException";
    static final String INDEX = "throws.IndexOutOfBoundsException";
    static final String NONE = "throws.NoSuchElementException";
    static final String DONE = "done";

    static long frame(int t) {
        return (t + 1) * 0x9E3779B97F4A7C15L;
    }

    /** The data symbols of a frame: zeros for numbers below 0. */
    static int[] data(int t) {
        return t < 0 ? new int[8] : Model.bytes(frame(t));
    }

    static int[] outer(int t) {
        int[] beginning = new int[12];
        for (int j = 0; j < 12; j++) {
            beginning[j] = Model.wordFrom(data(t - j))[j];
        }
        return Model.wordFrom(beginning);
    }

    static DiscCoder fed(int frames) {
        DiscCoder x = new DiscCoder();
        for (int t = 0; t < frames; t++) {
            x.feed(frame(t));
        }
        return x;
    }

    static void readAll(DiscCoder x) {
        int unread = x.rows() - x.figure(0);
        for (int t = 0; t < unread; t++) {
            x.read();
        }
    }

    /** Scratches symbol i of the outer word of that number. */
    static void scratchOuter(DiscCoder x, int number, int i, int by) {
        x.scratch(i % 2 == 0 ? number : number + 1, i, by);
    }

    static void disguise(DiscCoder x, int number) {
        disguise(x, number, 3, 9);
    }

    /** Makes the outer word of that number the word that differs at place and in the checks. */
    static void disguise(DiscCoder x, int number, int place, int by) {
        scratchOuterBy(x, number, wordOfFive(by, place, 12, 13, 14, 15));
    }

    static void scratchOuterBy(DiscCoder x, int number, int[] by) {
        for (int i = 0; i < 16; i++) {
            if (by[i] != 0) {
                scratchOuter(x, number, i, by[i]);
            }
        }
    }

    /** The outer word that has by at a place, four others that are not 0, and zeros else. */
    static int[] wordOfFive(int by, int place, Integer... others) {
        int[] word = new int[16];
        word[place] = by;
        Model.solve(word, List.of(others));
        return word;
    }

    /** Makes the outer word of that number one that is doubted, by its checks alone. */
    static void doubt(DiscCoder x, int number) {
        scratchOuter(x, number, 13, 1);
        scratchOuter(x, number, 15, 1);
    }

    static Object scratched(DiscCoder x, int row, int i, int by) {
        x.scratch(row, i, by);
        return DONE;
    }

    static Object burst(DiscCoder x, int from, int many, int by) {
        x.burst(from, many, by);
        return DONE;
    }

    static void dueFigures(String what, DiscCoder x, int... due) {
        for (int k = 0; k < due.length; k++) {
            int figure = k;
            Due.is(what + ": figure(" + k + ")", due[k], () -> x.figure(figure));
        }
    }

    static void dueOutput(String what, DiscCoder x, int row, int frame, boolean flag) {
        dueSymbols(what, x, row, data(frame), flag);
    }

    /** All symbols of a row's output but one flag alone: an object has 512 calls, no more. */
    static void dueSymbols(String what, DiscCoder x, int row, int[] due, boolean flag) {
        for (int i = 0; i < 8; i++) {
            int number = 8 * row + i;
            Due.is(what + ": out(" + number + ")", due[i], () -> x.out(number));
        }
        int one = 8 * row + row % 8;
        Due.is(what + ": flagged(" + one + ")", flag, () -> x.flagged(one));
    }

    /** The four last symbols of a row whose sum k is not 0 but whose other sums are. */
    static int[] faultOfOneSum(int k) {
        // The product of all x + E(other), its coefficients from that of x^3 down.
        int[] fault = {0, 0, 0, 1};
        for (int other = 0; other < 4; other++) {
            for (int i = 0; i < 4 && other != k; i++) {
                int next = i < 3 ? fault[i + 1] : 0;
                fault[i] = next ^ Model.polynomialProduct(fault[i], Model.e(other));
            }
        }
        return fault;
    }
}
