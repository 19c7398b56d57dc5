/**
 * The boundary cases that the promises name, call by call: each sentence has a test of its own.
 * That a refused call changes nothing is looked at by NoChange.
 */
public final class CallBoundaryTest extends Discs {
    private static final int MIN = Integer.MIN_VALUE;
    private static final int MAX = Integer.MAX_VALUE;
    /** A row whose first symbol has the number 0 again, as 16 times it wraps around. */
    private static final int WRAPPED_ROW = 1 << 28;
    /** A place of the output whose number in rows of eight wraps around. */
    private static final int WRAPPED_PLACE = 1 << 29;
    private static final int[] NO_SYMBOLS = {-1, 256, 257, 511, MIN, MIN + 1, MAX, -255, -256};

    public static void main(String[] args) {
        emptyDisc();
        nothingRead();
        objectsApart();
        feedUntilThereAre48();
        feedIntoFullDisc();
        feedWhenRowsWereRead();
        feedLowestByteFirst();
        rowsOfEmptyDisc();
        rowsOfFullDisc();
        symbolNoSuchRow();
        symbolNoSuchPlace();
        symbolAtTheEdges();
        scratchNoSuchRow();
        scratchNoSuchPlace();
        scratchByNoSymbol();
        scratchRowWasRead();
        scratchReasonsInOrder();
        scratchAtTheEdges();
        burstManyBelowZero();
        burstByNoSymbol();
        burstNotOnDisc();
        burstThatWrapsAround();
        burstOfNone();
        burstRowWasRead();
        burstReasonsInOrder();
        burstAtTheEdges();
        readAllRowsWereRead();
        readGoesOnAfterFeed();
        outThereIsNone();
        outAtTheEdges();
        flaggedThereIsNone();
        flaggedAtTheEdges();
        figureIsNoneOfThese();
        figuresAtTheirLeast();
        figureMostMended();
        figureMostDoubtedAndFilled();
        figureMostLost();
        checkIsNoneOfThese();
        checkChangesNothing();
        checkOfLeastAndMostData();
        productOfNoSymbols();
        productAtTheEdges();
        looksChangeNothing();
        Due.end("CallBoundaryTest");
    }

    private static DiscCoder empty() {
        return new DiscCoder();
    }

    /** 20 rows of which 14 were read: one word mended, one doubted, one inner word lost. */
    private static DiscCoder begun() {
        return readOf(damaged(fed(20)), 14);
    }

    private static DiscCoder full() {
        return readOf(damaged(fed(48)), 30);
    }

    private static DiscCoder ended() {
        return readOf(damaged(fed(48)), 48);
    }

    private static DiscCoder damaged(DiscCoder x) {
        scratchOuter(x, 1, 5, 200);
        disguise(x, 2, 10, 77);
        scratchOuter(x, 8, 2, 31);
        doubt(x, 8);
        x.burst(16 * 16 + 3, 20, 99);
        return x;
    }

    private static DiscCoder readOf(DiscCoder x, int rows) {
        for (int t = 0; t < rows; t++) {
            x.read();
        }
        return x;
    }

    // Promise 1: "An empty disc, nothing read."

    private static void emptyDisc() {
        DiscCoder x = empty();
        Due.is("1: an empty disc: rows()", 0, x::rows);
        for (int row = 0; row < 3; row++) {
            int none = row;
            Due.is("1: an empty disc: symbol(" + row + ", 0)", INDEX, () -> x.symbol(none, 0));
            Due.is("1: an empty disc: scratch", INDEX, () -> scratched(x, none, 0, 1));
        }
        Due.is("1: an empty disc: burst(0, 1, 1)", INDEX, () -> burst(x, 0, 1, 1));
        Due.is("1: an empty disc: the first frame's number", 0, () -> x.feed(3));
    }

    private static void nothingRead() {
        DiscCoder x = empty();
        dueFigures("1: nothing read", x, 0, 0, 0, 0, 0, 0, 0);
        Due.is("1: nothing read: out(0)", INDEX, () -> x.out(0));
        Due.is("1: nothing read: flagged(0)", INDEX, () -> x.flagged(0));
        Due.is("1: nothing read: read()", NONE, x::read);
    }

    private static void objectsApart() {
        DiscCoder used = ended();
        DiscCoder x = empty();
        Due.is("1: beside a full disc: rows()", 0, x::rows);
        dueFigures("1: beside a full disc", x, 0, 0, 0, 0, 0, 0, 0);
        x.feed(frame(5));
        x.read();
        Due.is("1: the full disc stays", 48, used::rows);
        Due.is("1: the full disc stays", 48, () -> used.figure(0));
        Due.is("1: the full disc stays", data(0)[0], () -> used.out(96));
    }

    // Promise 2: "Illegal state: there are 48."

    private static void feedUntilThereAre48() {
        DiscCoder x = empty();
        for (int t = 0; t < 48; t++) {
            int number = t;
            Due.is("2: feed, there are " + t, number, () -> x.feed(frame(number)));
            Due.is("2: rows() after frame " + t, number + 1, x::rows);
        }
        Due.is("2: feed, there are 48", STATE, () -> x.feed(frame(48)));
        Due.is("2: and again", STATE, () -> x.feed(0));
        Due.is("2: rows() after it", 48, x::rows);
    }

    private static void feedIntoFullDisc() {
        NoChange.is("2: feed, none read", STATE, () -> fed(48), x -> x.feed(frame(77)));
        NoChange.is("2: feed, 30 read", STATE, CallBoundaryTest::full, x -> x.feed(frame(77)));
        NoChange.is("2: feed, 48 read", STATE, CallBoundaryTest::ended, x -> x.feed(0));
        NoChange.is("2: feed, scratched", STATE, () -> scratchedAll(fed(48)), x -> x.feed(-1));
    }

    private static DiscCoder scratchedAll(DiscCoder x) {
        x.burst(0, 16 * x.rows(), 255);
        return x;
    }

    // "also when rows were read"
    private static void feedWhenRowsWereRead() {
        DiscCoder clean = fed(48);
        DiscCoder x = fed(1);
        x.read();
        for (int t = 1; t < 48; t++) {
            int number = t;
            Due.is("2: feed when all rows were read", number, () -> x.feed(frame(number)));
            Due.is("2: its first symbol", clean.symbol(t, 0), () -> x.symbol(number, 0));
            Due.is("2: its last symbol", clean.symbol(t, 15), () -> x.symbol(number, 15));
            x.read();
        }
        Due.is("2: feed when 48 rows were read", STATE, () -> x.feed(1));
    }

    // "the eight bytes of a long, the lowest first"
    private static void feedLowestByteFirst() {
        long[] datas = {0, -1, 1, 255, 256, Long.MIN_VALUE, Long.MAX_VALUE, 0x8000000080000000L,
            0xFFL << 56, 0xFF00L, 0x8001020304050607L};
        for (long data : datas) {
            DiscCoder x = empty();
            for (int t = 0; t < 13; t++) {
                x.feed(t == 0 ? data : 0);
            }
            readAll(x);
            for (int i = 0; i < 8; i++) {
                int number = i;
                int due = (int) (data >>> 8 * i) & 255;
                // Symbol j of frame 0 stands in row j if j is even and in row j + 1 if it is odd.
                Due.is("2: byte " + i + " of " + data, due,
                    () -> x.symbol(number + number % 2, number));
                Due.is("2: byte " + i + " of " + data + " read", due, () -> x.out(96 + number));
            }
        }
    }

    // Promise 3: "How many rows the disc has."

    private static void rowsOfEmptyDisc() {
        DiscCoder x = empty();
        Due.is("3: rows() of an empty disc", 0, x::rows);
        Due.answerOf(x::read);
        Due.answerOf(() -> scratched(x, 0, 0, 1));
        burst(x, 0, 0, 1);
        Due.is("3: rows() of a disc still empty", 0, x::rows);
        x.feed(0);
        Due.is("3: rows() of a disc with one", 1, x::rows);
    }

    private static void rowsOfFullDisc() {
        DiscCoder x = fed(47);
        Due.is("3: rows() of a disc with room for one", 47, x::rows);
        x.feed(0);
        Due.is("3: rows() of a full disc", 48, x::rows);
        Due.answerOf(() -> x.feed(0));
        Due.is("3: rows() of a full disc, fed in vain", 48, x::rows);
        readAll(x);
        Due.is("3: rows() of a full disc, all read", 48, x::rows);
    }

    // Promise 4: "Index out of bounds: there is no such row, or i is not 0 .. 15."

    private static void symbolNoSuchRow() {
        refuseSymbol(CallBoundaryTest::empty, 0, 0);
        refuseSymbol(CallBoundaryTest::empty, 0, 15);
        refuseSymbol(CallBoundaryTest::begun, 20, 0);
        refuseSymbol(CallBoundaryTest::begun, 47, 0);
        refuseSymbol(CallBoundaryTest::full, 48, 0);
        int[] noRows = {-1, MIN, MAX, WRAPPED_ROW, WRAPPED_ROW + 1, -WRAPPED_ROW};
        for (int row : noRows) {
            refuseSymbol(CallBoundaryTest::begun, row, 0);
        }
        refuseSymbol(CallBoundaryTest::full, -1, 15);
        // -1 * 16 + 16 would be the number of a symbol.
        refuseSymbol(CallBoundaryTest::full, -1, 16);
        refuseSymbol(CallBoundaryTest::full, 48, -1);
    }

    private static void symbolNoSuchPlace() {
        int[] noPlaces = {-1, 16, 17, 31, -16, MIN, MAX};
        for (int i : noPlaces) {
            refuseSymbol(CallBoundaryTest::begun, 1, i);
            refuseSymbol(CallBoundaryTest::full, 47, i);
        }
    }

    private static void refuseSymbol(NoChange.State state, int row, int i) {
        NoChange.is("4: symbol(" + row + ", " + i + ")", INDEX, state, x -> x.symbol(row, i));
    }

    private static void symbolAtTheEdges() {
        DiscCoder x = fed(48);
        Due.is("4: the first symbol", data(0)[0], () -> x.symbol(0, 0));
        Due.is("4: the first row's last", 255, () -> x.symbol(0, 15));
        Due.is("4: the last row's first", data(47)[0], () -> x.symbol(47, 0));
        Due.is("4: the last symbol", 255 - outer(46)[15], () -> x.symbol(47, 15));
        x.scratch(47, 15, 255);
        Due.is("4: the last symbol, scratched", outer(46)[15], () -> x.symbol(47, 15));
        readAll(x);
        Due.is("4: as it is now: reading mends the word, not the disc", outer(46)[15],
            () -> x.symbol(47, 15));
    }

    // Promise 5: "Index out of bounds: there is no such row, or i is not 0 .. 15; illegal
    // argument: by is not 0 .. 255; illegal state: the row was read."

    private static void scratchNoSuchRow() {
        refuseScratch(INDEX, CallBoundaryTest::empty, 0, 0, 1);
        refuseScratch(INDEX, CallBoundaryTest::begun, 20, 0, 1);
        refuseScratch(INDEX, CallBoundaryTest::full, 48, 0, 1);
        int[] noRows = {-1, MIN, MAX, WRAPPED_ROW + 15, -WRAPPED_ROW};
        for (int row : noRows) {
            refuseScratch(INDEX, CallBoundaryTest::begun, row, 0, 1);
        }
        refuseScratch(INDEX, CallBoundaryTest::full, 48, -1, 1);
        refuseScratch(INDEX, CallBoundaryTest::full, -1, 16, 0);
    }

    private static void scratchNoSuchPlace() {
        int[] noPlaces = {-1, 16, 17, 31, -16, MIN, MAX};
        for (int i : noPlaces) {
            refuseScratch(INDEX, CallBoundaryTest::begun, 15, i, 1);
            refuseScratch(INDEX, CallBoundaryTest::full, 47, i, 1);
        }
    }

    private static void scratchByNoSymbol() {
        for (int by : NO_SYMBOLS) {
            refuseScratch(ARGUMENT, CallBoundaryTest::begun, 14, 0, by);
            refuseScratch(ARGUMENT, CallBoundaryTest::full, 47, 15, by);
        }
    }

    private static void scratchRowWasRead() {
        refuseScratch(STATE, CallBoundaryTest::begun, 0, 0, 1);
        refuseScratch(STATE, CallBoundaryTest::begun, 13, 15, 255);
        refuseScratch(STATE, CallBoundaryTest::begun, 13, 0, 0);
        refuseScratch(STATE, CallBoundaryTest::ended, 47, 15, 1);
        DiscCoder x = begun();
        Due.is("5: the first row not read", DONE, () -> scratched(x, 14, 0, 1));
        x.read();
        Due.is("5: and when it was read", STATE, () -> scratched(x, 14, 0, 1));
    }

    private static void scratchReasonsInOrder() {
        refuseScratch(INDEX, CallBoundaryTest::begun, 20, 0, 256);
        refuseScratch(INDEX, CallBoundaryTest::begun, 14, 16, -1);
        refuseScratch(INDEX, CallBoundaryTest::begun, 0, 16, 1);
        refuseScratch(INDEX, CallBoundaryTest::begun, -1, 0, 1);
        refuseScratch(INDEX, CallBoundaryTest::begun, 0, -1, 256);
        refuseScratch(ARGUMENT, CallBoundaryTest::begun, 0, 0, 256);
        refuseScratch(ARGUMENT, CallBoundaryTest::ended, 47, 15, -1);
    }

    private static void refuseScratch(String exception, NoChange.State state,
            int row, int i, int by) {
        NoChange.is("5: scratch(" + row + ", " + i + ", " + by + ")", exception, state,
            x -> scratched(x, row, i, by));
    }

    private static void scratchAtTheEdges() {
        DiscCoder x = fed(48);
        int[][] edges = {{0, 0, 0}, {0, 0, 255}, {0, 15, 1}, {47, 0, 255}, {47, 15, 0},
            {47, 15, 128}};
        for (int[] edge : edges) {
            int was = x.symbol(edge[0], edge[1]);
            String what = "5: at the edge " + edge[0] + ", " + edge[1] + ", " + edge[2];
            Due.is(what, DONE, () -> scratched(x, edge[0], edge[1], edge[2]));
            Due.is(what + ", added", was ^ edge[2], () -> x.symbol(edge[0], edge[1]));
        }
        Due.is("5: the neighbour stays", fed(1).symbol(0, 1), () -> x.symbol(0, 1));
    }

    // Promise 6: "Illegal argument: many is below 0, or by not 0 .. 255; index out of bounds: one
    // of them is not on the disc (none, for many = 0, never is); illegal state: the row of one of
    // them was read."

    private static void burstManyBelowZero() {
        int[] manies = {-1, -2, -320, MIN, MIN + 1};
        for (int many : manies) {
            refuseBurst(ARGUMENT, CallBoundaryTest::begun, 14 * 16, many, 1);
            refuseBurst(ARGUMENT, CallBoundaryTest::begun, 20 * 16, many, 1);
        }
        refuseBurst(ARGUMENT, CallBoundaryTest::empty, 0, -1, 0);
        refuseBurst(ARGUMENT, CallBoundaryTest::full, MIN, MIN, 1);
    }

    private static void burstByNoSymbol() {
        for (int by : NO_SYMBOLS) {
            refuseBurst(ARGUMENT, CallBoundaryTest::begun, 14 * 16, 5, by);
            refuseBurst(ARGUMENT, CallBoundaryTest::begun, 14 * 16, 0, by);
            refuseBurst(ARGUMENT, CallBoundaryTest::empty, 0, 0, by);
        }
    }

    private static void burstNotOnDisc() {
        refuseBurst(INDEX, CallBoundaryTest::empty, 0, 1, 1);
        refuseBurst(INDEX, CallBoundaryTest::begun, 20 * 16, 1, 1);
        refuseBurst(INDEX, CallBoundaryTest::begun, 20 * 16 - 1, 2, 1);
        refuseBurst(INDEX, CallBoundaryTest::begun, 14 * 16, 6 * 16 + 1, 1);
        refuseBurst(INDEX, CallBoundaryTest::begun, -1, 1, 1);
        refuseBurst(INDEX, CallBoundaryTest::begun, -1, 2, 0);
        refuseBurst(INDEX, CallBoundaryTest::full, 767, 2, 1);
        refuseBurst(INDEX, CallBoundaryTest::full, 768, 1, 1);
        refuseBurst(INDEX, CallBoundaryTest::full, 30 * 16, 18 * 16 + 1, 0);
        refuseBurst(INDEX, () -> fed(48), 0, 769, 1);
        refuseBurst(INDEX, () -> fed(48), -1, 769, 1);
        refuseBurst(INDEX, () -> fed(48), -1, 770, 1);
    }

    private static void burstThatWrapsAround() {
        int[][] fromAndMany = {{MAX, 1}, {MAX, 2}, {MAX, MAX}, {MAX - 5, 6}, {MAX - 5, 7},
            {MAX - 5, 300}, {1, MAX}, {0, MAX}, {16 * 14, MAX}, {767, MAX}, {MIN, MAX}, {MIN, 1},
            {-1, MAX}, {MIN + 1, MAX}, {MIN + 16 * 20, MAX}};
        for (int[] wide : fromAndMany) {
            refuseBurst(INDEX, CallBoundaryTest::begun, wide[0], wide[1], 1);
            refuseBurst(INDEX, () -> fed(48), wide[0], wide[1], 1);
        }
    }

    private static void burstOfNone() {
        int[] starts = {0, 1, -1, 14 * 16, 20 * 16, 20 * 16 + 1, 768, 769, MIN, MAX};
        NoChange.State[] states = {CallBoundaryTest::empty, CallBoundaryTest::begun,
            CallBoundaryTest::full, CallBoundaryTest::ended};
        for (int from : starts) {
            for (NoChange.State state : states) {
                NoChange.is("6: none from " + from, DONE, state, x -> burst(x, from, 0, 255));
            }
        }
    }

    private static void burstRowWasRead() {
        refuseBurst(STATE, CallBoundaryTest::begun, 0, 1, 1);
        refuseBurst(STATE, CallBoundaryTest::begun, 14 * 16 - 1, 1, 1);
        refuseBurst(STATE, CallBoundaryTest::begun, 14 * 16 - 1, 2, 1);
        refuseBurst(STATE, CallBoundaryTest::begun, 14 * 16 - 1, 6 * 16 + 1, 255);
        refuseBurst(STATE, CallBoundaryTest::begun, 0, 20 * 16, 0);
        refuseBurst(STATE, CallBoundaryTest::ended, 767, 1, 1);
        refuseBurst(STATE, CallBoundaryTest::ended, 0, 768, 1);
        DiscCoder x = begun();
        Due.is("6: the rows that were not read", DONE, () -> burst(x, 14 * 16, 6 * 16, 1));
    }

    private static void burstReasonsInOrder() {
        refuseBurst(ARGUMENT, CallBoundaryTest::begun, -1, -1, 1);
        refuseBurst(ARGUMENT, CallBoundaryTest::begun, 20 * 16, 1, 256);
        refuseBurst(ARGUMENT, CallBoundaryTest::begun, 0, 1, -1);
        refuseBurst(ARGUMENT, CallBoundaryTest::begun, 0, -1, 1);
        refuseBurst(ARGUMENT, CallBoundaryTest::begun, 0, 20 * 16 + 1, 256);
        refuseBurst(INDEX, CallBoundaryTest::begun, 0, 20 * 16 + 1, 1);
        refuseBurst(INDEX, CallBoundaryTest::begun, -1, 2, 1);
        refuseBurst(INDEX, CallBoundaryTest::ended, 767, 2, 1);
        refuseBurst(INDEX, CallBoundaryTest::ended, 0, MAX, 0);
    }

    private static void refuseBurst(String exception, NoChange.State state,
            int from, int many, int by) {
        NoChange.is("6: burst(" + from + ", " + many + ", " + by + ")", exception, state,
            x -> burst(x, from, many, by));
    }

    private static void burstAtTheEdges() {
        int[][] edges = {{0, 1, 255}, {0, 768, 1}, {767, 1, 255}, {0, 767, 3}, {1, 767, 7},
            {15, 2, 9}, {16, 16, 128}, {5, 40, 0}};
        DiscCoder clean = fed(48);
        for (int[] edge : edges) {
            DiscCoder x = fed(48);
            String what = "6: burst(" + edge[0] + ", " + edge[1] + ", " + edge[2] + ")";
            Due.is(what, DONE, () -> burst(x, edge[0], edge[1], edge[2]));
            int[] numbers = {0, 1, 14, 15, 16, 17, 31, 32, 44, 45, 766, 767};
            for (int n : numbers) {
                boolean in = n >= edge[0] && n - edge[0] < edge[1];
                Due.is(what + ", then number " + n,
                    clean.symbol(n / 16, n % 16) ^ (in ? edge[2] : 0),
                    () -> x.symbol(n / 16, n % 16));
            }
        }
    }

    // Promise 7: "No such element: all rows were read."

    private static void readAllRowsWereRead() {
        NoChange.is("7: read() of an empty disc", NONE, CallBoundaryTest::empty, DiscCoder::read);
        NoChange.is("7: read() with 1 of 1 read", NONE, () -> readOf(fed(1), 1), DiscCoder::read);
        NoChange.is("7: read() with 20 of 20 read", NONE, () -> readOf(damaged(fed(20)), 20),
            DiscCoder::read);
        NoChange.is("7: read() with 48 of 48 read", NONE, CallBoundaryTest::ended,
            DiscCoder::read);
        DiscCoder x = readOf(fed(48), 47);
        Due.is("7: read() of the last row", 0, x::read);
        Due.is("7: read() behind the last row", NONE, x::read);
    }

    private static void readGoesOnAfterFeed() {
        DiscCoder x = readOf(fed(3), 3);
        Due.is("7: all rows were read", NONE, x::read);
        x.feed(frame(3));
        Due.is("7: one more was fed", 0, x::read);
        Due.is("7: and read", NONE, x::read);
        Due.is("7: rows read", 4, () -> x.figure(0));
        // "how many symbols of the output of this row are flagged (0 or 8)"
        DiscCoder lost = fed(20);
        disguise(lost, 4, 11, 1);
        for (int t = 0; t < 20; t++) {
            Due.is("7: read() of row " + t, t == 5 ? 8 : 0, lost::read);
        }
    }

    // Promise 8: "Index out of bounds: there is none."

    private static void outThereIsNone() {
        refuseOut(CallBoundaryTest::empty, 0);
        refuseOut(() -> fed(48), 0);
        refuseOut(() -> readOf(fed(48), 1), 8);
        refuseOut(CallBoundaryTest::begun, 14 * 8);
        refuseOut(CallBoundaryTest::begun, 20 * 8 - 1);
        refuseOut(CallBoundaryTest::full, 30 * 8);
        refuseOut(CallBoundaryTest::ended, 384);
        int[] none = {-1, -8, MIN, MAX, WRAPPED_PLACE, -WRAPPED_PLACE};
        for (int i : none) {
            refuseOut(CallBoundaryTest::begun, i);
            refuseOut(CallBoundaryTest::ended, i);
        }
    }

    private static void refuseOut(NoChange.State state, int i) {
        NoChange.is("8: out(" + i + ")", INDEX, state, x -> x.out(i));
    }

    private static void outAtTheEdges() {
        DiscCoder x = fed(48);
        for (int t = 0; t < 48; t++) {
            int first = 8 * t;
            int[] due = data(t - 12);
            Due.is("8: out(" + first + ") before row " + t, INDEX, () -> x.out(first));
            x.read();
            Due.is("8: out(" + first + ")", due[0], () -> x.out(first));
            Due.is("8: out(" + first + " + 7)", due[7], () -> x.out(first + 7));
            Due.is("8: out(" + first + " + 8)", INDEX, () -> x.out(first + 8));
        }
        Due.is("8: out(0) at the end", 0, () -> x.out(0));
        Due.is("8: out(383) at the end", data(35)[7], () -> x.out(383));
    }

    // Promise 9: "Index out of bounds: there is none."

    private static void flaggedThereIsNone() {
        refuseFlagged(CallBoundaryTest::empty, 0);
        refuseFlagged(() -> fed(48), 0);
        refuseFlagged(() -> readOf(fed(48), 1), 8);
        refuseFlagged(CallBoundaryTest::begun, 14 * 8);
        refuseFlagged(CallBoundaryTest::begun, 20 * 8 - 1);
        refuseFlagged(CallBoundaryTest::full, 30 * 8);
        refuseFlagged(CallBoundaryTest::ended, 384);
        int[] none = {-1, -8, MIN, MAX, WRAPPED_PLACE, -WRAPPED_PLACE};
        for (int i : none) {
            refuseFlagged(CallBoundaryTest::begun, i);
            refuseFlagged(CallBoundaryTest::ended, i);
        }
    }

    private static void refuseFlagged(NoChange.State state, int i) {
        NoChange.is("9: flagged(" + i + ")", INDEX, state, x -> x.flagged(i));
    }

    private static void flaggedAtTheEdges() {
        DiscCoder x = fed(48);
        // Symbol 11 of the outer word n is in the inner word read in row n + 1.
        disguiseWordBelowZero(x);
        disguise(x, 46, 11, 1);
        for (int t = 0; t < 48; t++) {
            int first = 8 * t;
            Due.is("9: flagged(" + first + ") before row " + t, INDEX, () -> x.flagged(first));
            x.read();
            boolean lost = t == 0 || t == 2 || t == 4 || t == 47;
            Due.is("9: flagged(" + first + ")", lost, () -> x.flagged(first));
            Due.is("9: flagged(" + first + " + 7)", lost, () -> x.flagged(first + 7));
            Due.is("9: flagged(" + first + " + 8)", INDEX, () -> x.flagged(first + 8));
        }
        dueFigures("9: four rows flagged", x, 48, 384, 0, 0, 0, 4, 32);
    }

    /** Of the outer word -1 only the odd symbols are on the disc; here 7, 9 and 11 are wrong. */
    private static void disguiseWordBelowZero(DiscCoder x) {
        scratchOuterBy(x, -1, wordOfFive(1, 11, 7, 9, 13, 15));
    }

    // Promise 10: "Illegal argument: k is none of these."

    private static void figureIsNoneOfThese() {
        int[] none = {-1, 7, 8, -6, MIN, MAX};
        for (int k : none) {
            NoChange.is("10: figure(" + k + ")", ARGUMENT, CallBoundaryTest::empty,
                x -> x.figure(k));
            NoChange.is("10: figure(" + k + ")", ARGUMENT, CallBoundaryTest::full,
                x -> x.figure(k));
        }
    }

    private static void figuresAtTheirLeast() {
        dueFigures("10: nothing fed", empty(), 0, 0, 0, 0, 0, 0, 0);
        dueFigures("10: nothing read", damaged(fed(48)), 0, 0, 0, 0, 0, 0, 0);
        dueFigures("10: one row read", readOf(fed(1), 1), 1, 8, 0, 0, 0, 0, 0);
        dueFigures("10: nothing wrong", readOf(fed(48), 48), 48, 384, 0, 0, 0, 0, 0);
    }

    private static void figureMostMended() {
        DiscCoder x = fed(48);
        for (int t = 0; t < 48; t++) {
            x.scratch(t, 1, 1 + t);
        }
        readAll(x);
        dueFigures("10: every outer word is mended", x, 48, 384, 48, 0, 0, 0, 0);
        dueOutput("10: every outer word is mended", x, 47, 35, false);
    }

    private static void figureMostDoubtedAndFilled() {
        DiscCoder all = fed(48);
        DiscCoder four = fed(48);
        for (int number = -1; number < 47; number++) {
            doubt(all, number);
            if ((number + 1) % 12 < 4) {
                doubt(four, number);
            }
        }
        readAll(all);
        readAll(four);
        // The first four rows have 1, 2, 3 and 4 doubted symbols, all others five or more.
        dueFigures("10: every outer word is doubted", all, 48, 384, 0, 48, 10, 44, 352);
        dueFigures("10: four of twelve are doubted", four, 48, 384, 0, 16, 186, 0, 0);
        dueOutput("10: four of twelve are doubted", four, 47, 35, false);
    }

    private static void figureMostLost() {
        DiscCoder x = fed(48);
        disguiseWordBelowZero(x);
        for (int number = 0; number < 47; number++) {
            disguise(x, number, 11, 1 + number);
        }
        for (int t = 0; t < 48; t++) {
            Due.is("10: every row is lost", 8, x::read);
        }
        dueFigures("10: every row is lost", x, 48, 384, 0, 0, 0, 48, 384);
        Due.is("10: flagged(0)", true, () -> x.flagged(0));
        Due.is("10: flagged(383)", true, () -> x.flagged(383));
    }

    // Promise 11: "Illegal argument: k is none of these."

    private static void checkIsNoneOfThese() {
        int[] none = {-1, 4, 5, -4, MIN, MAX};
        for (int k : none) {
            NoChange.is("11: check(-1, " + k + ")", ARGUMENT, CallBoundaryTest::empty,
                x -> x.check(-1, k));
            NoChange.is("11: check(0, " + k + ")", ARGUMENT, CallBoundaryTest::full,
                x -> x.check(0, k));
        }
    }

    private static void checkChangesNothing() {
        NoChange.State[] states = {CallBoundaryTest::empty, CallBoundaryTest::begun,
            CallBoundaryTest::full, CallBoundaryTest::ended};
        for (int k = 0; k < 4; k++) {
            int some = k;
            int due = Model.wordFrom(Model.bytes(frame(9)))[8 + k];
            for (NoChange.State state : states) {
                NoChange.is("11: check " + k, due, state, x -> x.check(frame(9), some));
            }
        }
    }

    private static void checkOfLeastAndMostData() {
        DiscCoder x = empty();
        for (int k = 0; k < 4; k++) {
            int some = k;
            Due.is("11: check " + k + " of zeros", 0, () -> x.check(0, some));
        }
        long[] datas = {-1, Long.MIN_VALUE, Long.MAX_VALUE, 1, 1L << 56, 0xFFL << 56, 255};
        for (long data : datas) {
            int[] word = Model.wordFrom(Model.bytes(data));
            for (int k = 0; k < 4; k++) {
                int some = k;
                Due.is("11: check " + k + " of " + data, word[8 + k], () -> x.check(data, some));
            }
        }
    }

    // Promise 12: "Illegal argument: one of them is none."

    private static void productOfNoSymbols() {
        int[] symbols = {0, 1, 255};
        for (int none : NO_SYMBOLS) {
            for (int symbol : symbols) {
                refuseProduct(none, symbol);
                refuseProduct(symbol, none);
            }
            refuseProduct(none, none);
            refuseProduct(none, -1);
            refuseProduct(256, none);
        }
    }

    private static void refuseProduct(int a, int b) {
        NoChange.is("12: product(" + a + ", " + b + ")", ARGUMENT, CallBoundaryTest::begun,
            x -> x.product(a, b));
    }

    private static void productAtTheEdges() {
        DiscCoder x = empty();
        int[][] due = {{0, 0, 0}, {0, 255, 0}, {255, 0, 0}, {1, 1, 1}, {1, 255, 255},
            {255, 1, 255}, {2, 127, 254}, {2, 128, 29}, {128, 2, 29}, {128, 128, 19},
            {255, 255, 226}, {2, 142, 1}};
        for (int[] line : due) {
            Due.is("12: product(" + line[0] + ", " + line[1] + ")", line[2],
                () -> x.product(line[0], line[1]));
        }
    }

    // Promises 3, 4, 8, 9, 10 and 12 only answer: a look changes nothing either.
    private static void looksChangeNothing() {
        NoChange.is("3: rows()", 20, CallBoundaryTest::begun, DiscCoder::rows);
        NoChange.is("4: symbol(0, 0)", data(0)[0], CallBoundaryTest::begun,
            x -> x.symbol(0, 0));
        NoChange.is("8: out(103)", data(0)[7], CallBoundaryTest::begun, x -> x.out(103));
        // Symbol 10 of the outer word 2 is in the inner word read in row 4.
        NoChange.is("9: flagged(39)", true, CallBoundaryTest::begun, x -> x.flagged(39));
        int[] figures = {14, 112, 1, 1, 5, 1, 8};
        for (int k = 0; k < 7; k++) {
            int some = k;
            NoChange.is("10: figure(" + k + ")", figures[k], CallBoundaryTest::begun,
                x -> x.figure(some));
        }
        NoChange.is("12: product(2, 128)", 29, CallBoundaryTest::begun, x -> x.product(2, 128));
    }
}
