import java.util.List;

/** The boundary cases that the document's terms name: each sentence has a test of its own. */
public final class TermsBoundaryTest extends Discs {
    public static void main(String[] args) {
        productsOfAllSymbols();
        powersComeRound();
        justOneWordOfZeros();
        justOneWordOfAnyPlace();
        innerWordsBelowZeroAreZeros();
        firstFrameReachesItsLastRow();
        outerWordsBelowZeroAreZeros();
        turnedFromEightOn();
        readAsItIsThen();
        lastRowWaitsForTheNext();
        symbolsOfRowsBelowZeroAreZeros();
        symbolsOfRowsBelowZeroAreMended();
        wordBelowZeroIsMended();
        wordBelowZeroIsDoubted();
        wordStays();
        oneChangeAtEachPlace();
        oneChangeToAnotherWord();
        twoChangesAreDoubted();
        fullyScratchedRowIsDoubted();
        firstTwelveAreDoubted();
        numbersBelowMinusOne();
        numbersBelowMinusOneBesideFive();
        noMoreThanFour();
        allTwelveDoubted();
        noneDoubted();
        noValuesForThese();
        valuesForFourAlways();
        filledWithoutChange();
        nextEightOfTheOutput();
        theLastOf512Calls();
        Due.end("TermsBoundaryTest");
    }

    // "less multiples of x^8 + x^4 + x^3 + x^2 + 1 until it has no x^8 or more"
    private static void productsOfAllSymbols() {
        for (int a = 0; a < 256; a++) {
            DiscCoder x = new DiscCoder();
            for (int b = 0; b < 256; b++) {
                int left = a;
                int right = b;
                Due.is("product(" + a + ", " + b + ")", Model.polynomialProduct(a, b),
                    () -> x.product(left, right));
            }
        }
    }

    // "E(k) is 2 multiplied k times with 1": after 255 times, and no sooner, it is 1 again.
    private static void powersComeRound() {
        DiscCoder x = new DiscCoder();
        int power = 1;
        for (int k = 1; k <= 255; k++) {
            power = x.product(2, power);
            int now = power;
            Due.is("E(" + k + ") is 1", k == 255, () -> now == 1);
        }
    }

    // "of any 8, or 12, symbols there is just one word that begins with them"

    private static void justOneWordOfZeros() {
        DiscCoder x = new DiscCoder();
        for (int t = 0; t < 20; t++) {
            x.feed(0);
        }
        for (int n = 0; n < 320; n++) {
            int number = n;
            Due.is("zeros: symbol number " + n, n % 16 < 8 ? 0 : 255,
                () -> x.symbol(number / 16, number % 16));
        }
        for (int k = 0; k < 4; k++) {
            int check = k;
            Due.is("zeros: check " + k, 0, () -> x.check(0, check));
        }
    }

    private static void justOneWordOfAnyPlace() {
        DiscCoder x = new DiscCoder();
        for (int i = 0; i < 8; i++) {
            int[] bytes = {1, 128, 255};
            for (int symbol : bytes) {
                long data = (long) symbol << 8 * i;
                int[] word = new int[12];
                word[i] = symbol;
                for (int k = 0; k < 4; k++) {
                    word[8 + k] = x.check(data, k);
                }
                Due.is("a word of " + symbol + " at " + i, true, () -> Model.isWord(word));
            }
        }
    }

    // "all w(t) for t below 0 are zeros"
    private static void innerWordsBelowZeroAreZeros() {
        DiscCoder x = fed(14);
        for (int t = 0; t < 12; t++) {
            int row = t;
            for (int j = 0; j < 12; j++) {
                int place = j;
                int word = j % 2 == 0 ? t : t - 1;
                if (j > word) {
                    Due.is("symbol " + j + " of row " + t + " is that of w(" + (word - j) + ")",
                        j < 8 ? 0 : 255, () -> x.symbol(row, place));
                }
            }
        }
    }

    // Symbol j of w(0) is in x(j), and its last is the last that a frame before 0 could hold.
    private static void firstFrameReachesItsLastRow() {
        DiscCoder x = fed(14);
        int[] word = Model.wordFrom(data(0));
        for (int j = 0; j < 12; j++) {
            int place = j;
            int row = j + j % 2;
            Due.is("symbol " + j + " of w(0) on the disc", j < 8 ? word[j] : 255 - word[j],
                () -> x.symbol(row, place));
        }
        Due.is("check 3 of frame 0 in row 12", 255 - x.check(frame(0), 3),
            () -> x.symbol(12, 11));
    }

    // "all x(t) for t below 0 are zeros"
    private static void outerWordsBelowZeroAreZeros() {
        DiscCoder x = new DiscCoder();
        x.feed(-1);
        for (int i = 1; i < 16; i += 2) {
            int place = i;
            Due.is("odd symbol " + i + " of row 0", i < 8 ? 0 : 255, () -> x.symbol(0, place));
        }
        Due.is("even symbol 0 of row 0", 255, () -> x.symbol(0, 0));
    }

    // "those from 8 on are written as 255 less them"
    private static void turnedFromEightOn() {
        DiscCoder x = fed(20);
        int[] now = outer(19);
        int[] before = outer(18);
        Due.is("symbol 6", now[6], () -> x.symbol(19, 6));
        Due.is("symbol 7, the last that is not", before[7], () -> x.symbol(19, 7));
        Due.is("symbol 8, the first that is", 255 - now[8], () -> x.symbol(19, 8));
        Due.is("symbol 9", 255 - before[9], () -> x.symbol(19, 9));
        Due.is("symbol 14", 255 - now[14], () -> x.symbol(19, 14));
        Due.is("symbol 15, the last", 255 - before[15], () -> x.symbol(19, 15));
    }

    // "The row t is read as it is on the disc then"
    private static void readAsItIsThen() {
        DiscCoder x = fed(30);
        for (int i = 0; i < 16; i++) {
            x.scratch(9, i, 50);
        }
        x.read();
        x.burst(9 * 16, 16, 50);
        readAll(x);
        dueFigures("scratched, and back again before it is read", x, 30, 240, 0, 0, 0, 0, 0);
        DiscCoder late = fed(30);
        for (int t = 0; t < 9; t++) {
            late.read();
        }
        late.scratch(9, 3, 1);
        late.read();
        dueFigures("scratched just before it is read", late, 10, 80, 1, 0, 0, 0, 0);
    }

    // "x'(t - 1) has its odd symbols of row t, its even ones of row t - 1."
    private static void lastRowWaitsForTheNext() {
        DiscCoder x = fed(12);
        x.scratch(11, 0, 1);
        readAll(x);
        dueFigures("the last row's even symbol", x, 12, 96, 0, 0, 0, 0, 0);
        x.feed(frame(12));
        x.read();
        dueFigures("is in the next row's word", x, 13, 104, 1, 0, 0, 0, 0);
        DiscCoder odd = fed(12);
        odd.scratch(11, 1, 1);
        readAll(odd);
        dueFigures("the last row's odd symbol", odd, 12, 96, 1, 0, 0, 0, 0);
        DiscCoder both = fed(12);
        both.scratch(10, 0, 1);
        both.scratch(11, 15, 1);
        readAll(both);
        dueFigures("two rows' symbols in one word", both, 12, 96, 0, 1, 1, 0, 0);
    }

    // "all symbols read in rows below 0 are 0"

    private static void symbolsOfRowsBelowZeroAreZeros() {
        long[] datas = {0, -1, 1, Long.MIN_VALUE, frame(0)};
        for (long data : datas) {
            DiscCoder x = new DiscCoder();
            x.feed(data);
            Due.is("read row 0 of " + data, 0, x::read);
            dueFigures("row 0 of " + data, x, 1, 8, 0, 0, 0, 0, 0);
            dueSymbols("row 0 of " + data, x, 0, new int[8], false);
        }
    }

    private static void symbolsOfRowsBelowZeroAreMended() {
        // Of a word with five symbols that are not 0 four are on the disc, and the fifth, 10, is
        // one of row -1: a change of it makes a word, which shows in the row that it comes to.
        int[] word = wordOfFive(3, 11, 7, 9, 10, 13);
        int tenth = word[10];
        word[10] = 0;
        DiscCoder x = fed(20);
        scratchOuterBy(x, -1, word);
        for (int t = 0; t < 6; t++) {
            boolean wrong = t == 0 || t == 1 || t == 2 || t == 4;
            Due.is("a symbol of row -1 is mended, row " + t, wrong ? 8 : 0, x::read);
        }
        dueFigures("a symbol of row -1 is mended", x, 6, 48, 1, 0, 0, 4, 32);
        Due.is("a symbol of row -1 was not 0", true, () -> tenth != 0);
    }

    private static void wordBelowZeroIsMended() {
        for (int i = 1; i < 16; i += 2) {
            DiscCoder x = fed(20);
            x.scratch(0, i, 255);
            for (int t = 0; t < 20; t++) {
                Due.is("x'(-1) wrong at " + i + ", row " + t, 0, x::read);
                dueOutput("x'(-1) wrong at " + i, x, t, t - 12, false);
            }
            dueFigures("x'(-1) wrong at " + i, x, 20, 160, 1, 0, 0, 0, 0);
        }
    }

    private static void wordBelowZeroIsDoubted() {
        DiscCoder x = fed(20);
        x.scratch(0, 1, 9);
        x.scratch(0, 11, 8);
        for (int t = 0; t < 20; t++) {
            int filled = Math.min(t + 1, 12);
            Due.is("x'(-1) doubted, row " + t, 0, x::read);
            Due.is("x'(-1) doubted, filled in row " + t, filled, () -> x.figure(4));
            dueOutput("x'(-1) doubted", x, t, t - 12, false);
        }
        dueFigures("x'(-1) doubted", x, 20, 160, 0, 1, 12, 0, 0);
    }

    // "if it is a word, it stays"
    private static void wordStays() {
        for (int place = 0; place < 12; place++) {
            DiscCoder x = fed(40);
            disguise(x, 15, place, 128);
            readAll(x);
            dueFigures("another word at " + place, x, 40, 320, 0, 0, 0, 1, 8);
            int row = 15 + 12 - place;
            int[] due = data(15 - place);
            if (place < 8) {
                due[place] ^= 128;
            }
            dueSymbols("another word at " + place, x, row, due, true);
        }
    }

    // "if changing one of its 16 symbols makes it a word, it is changed, which counts as MENDED"

    private static void oneChangeAtEachPlace() {
        for (int i = 0; i < 16; i++) {
            for (int by = 1; by < 256; by++) {
                DiscCoder x = fed(26);
                scratchOuter(x, 13, i, by);
                readAll(x);
                dueFigures("changed by " + by + " at " + i, x, 26, 208, 1, 0, 0, 0, 0);
                if (i < 8 && 13 - i + 12 < 26) {
                    dueOutput("changed by " + by + " at " + i, x, 25 - i, 13 - i, false);
                }
            }
        }
    }

    private static void oneChangeToAnotherWord() {
        // Four wrong symbols may be but one away from another word: then that is it.
        for (int left = 0; left < 5; left++) {
            Integer[] others = {4, 9, 13, 14};
            int[] word = wordOfFive(60, 2, others);
            word[left == 0 ? 2 : others[left - 1]] = 0;
            DiscCoder x = fed(40);
            scratchOuterBy(x, 15, word);
            readAll(x);
            // The inner words that symbols 2, 4 and 9 belong to are none then.
            dueFigures("four wrong, one away", x, 40, 320, 1, 0, 0, 3, 24);
            int[] due = data(13);
            due[2] ^= 60;
            dueSymbols("four wrong, one away", x, 25, due, true);
        }
    }

    // "otherwise its first 12 symbols are DOUBTED"

    private static void twoChangesAreDoubted() {
        for (int i = 0; i < 16; i++) {
            for (int j = i + 1; j < 16; j++) {
                DiscCoder x = fed(20);
                scratchOuter(x, 7, i, 1);
                scratchOuter(x, 7, j, i + j);
                readAll(x);
                dueFigures("wrong at " + i + " and " + j, x, 20, 160, 0, 1, 12, 0, 0);
                dueOutput("wrong at " + i + " and " + j, x, 19, 7, false);
            }
        }
    }

    private static void fullyScratchedRowIsDoubted() {
        DiscCoder x = fed(48);
        x.burst(20 * 16, 16, 255);
        readAll(x);
        // Row 20 has the even symbols of one outer word and the odd ones of another.
        dueFigures("a whole row scratched", x, 48, 384, 0, 2, 24, 0, 0);
        for (int t = 0; t < 48; t++) {
            if (t % 2 == 0) {
                dueOutput("a whole row scratched", x, t, t - 12, false);
            }
        }
    }

    private static void firstTwelveAreDoubted() {
        DiscCoder x = fed(40);
        doubt(x, 9);
        for (int t = 0; t < 40; t++) {
            x.read();
            int filled = Math.max(0, Math.min(t - 9, 12));
            Due.is("doubted is x'(9): filled in row " + t, filled, () -> x.figure(4));
        }
        dueFigures("doubted is x'(9)", x, 40, 320, 0, 1, 12, 0, 0);
    }

    // "all zeros and not doubted for numbers below -1"

    private static void numbersBelowMinusOne() {
        DiscCoder x = fed(20);
        for (int number = -1; number < 3; number++) {
            doubt(x, number);
        }
        for (int t = 0; t < 20; t++) {
            Due.is("the first four doubted, row " + t, 0, x::read);
            dueOutput("the first four doubted", x, t, t - 12, false);
        }
        dueFigures("the first four doubted", x, 20, 160, 0, 4, 48, 0, 0);
    }

    private static void numbersBelowMinusOneBesideFive() {
        DiscCoder x = fed(20);
        for (int number = -1; number < 4; number++) {
            doubt(x, number);
        }
        // Rows 0 to 3 have fewer than five; row 11 is the last that has x'(-1).
        for (int t = 0; t < 20; t++) {
            boolean five = t >= 4 && t <= 11;
            Due.is("the first five doubted, row " + t, five ? 8 : 0, x::read);
            dueOutput("the first five doubted", x, t, t - 12, five);
        }
        dueFigures("the first five doubted", x, 20, 160, 0, 5, 20, 8, 64);
    }

    // "if no more than four are doubted"

    private static void noMoreThanFour() {
        int[][] numbers = {{10, 11, 12, 13, 14}, {10, 12, 14, 16, 21}, {10, 11, 19, 20, 21}};
        for (int[] five : numbers) {
            for (int many = 4; many <= 5; many++) {
                DiscCoder x = fed(44);
                for (int m = 0; m < many; m++) {
                    scratchOuter(x, five[m], 0, 90);
                    doubt(x, five[m]);
                }
                readAll(x);
                // The inner words read in rows t have x'(t - 12) .. x'(t - 1).
                int lost = many == 4 ? 0 : five[0] + 12 - five[4];
                dueFigures(many + " doubted of " + five[0] + " .. " + five[4], x,
                    44, 352, 0, many, 12 * many - lost * many, lost, 8 * lost);
                int row = five[0] + 12;
                int[] due = data(five[0]);
                due[0] ^= many == 4 ? 0 : 90;
                dueSymbols(many + " doubted", x, row, due, many == 5);
                dueOutput(many + " doubted, the row after", x, row + 1, five[0] + 1, false);
            }
        }
    }

    private static void allTwelveDoubted() {
        DiscCoder x = fed(30);
        for (int number = 5; number < 17; number++) {
            scratchOuter(x, number, 0, 200);
            doubt(x, number);
        }
        readAll(x);
        int[] due = data(5);
        due[0] ^= 200;
        dueSymbols("all twelve doubted", x, 17, due, true);
        // Rows 6 to 9 and 25 to 28 have 1 to 4 doubted, those between five to twelve.
        dueFigures("all twelve doubted", x, 30, 240, 0, 12, 20, 15, 120);
    }

    private static void noneDoubted() {
        DiscCoder x = fed(30);
        readAll(x);
        dueFigures("none doubted, and words", x, 30, 240, 0, 0, 0, 0, 0);
        DiscCoder wrong = fed(30);
        disguise(wrong, 9, 11, 1);
        readAll(wrong);
        dueFigures("none doubted, and no word", wrong, 30, 240, 0, 0, 0, 1, 8);
    }

    // "and there are values for these that make it a word .. otherwise they stay, and it is LOST"
    private static void noValuesForThese() {
        for (int many = 0; many <= 3; many++) {
            DiscCoder x = fed(40);
            disguise(x, 10, 3, 9);
            for (int number = 11; number < 11 + many; number++) {
                scratchOuter(x, number, number - 7, 33);
                doubt(x, number);
            }
            readAll(x);
            // The inner word of frame 7 has symbol 3 of x'(10) and symbols 4, 5, 6 of x'(11) ..
            int[] due = data(7);
            due[3] ^= 9;
            for (int m = 0; m < many; m++) {
                due[4 + m] ^= 33;
            }
            dueSymbols("no values for " + many, x, 19, due, true);
            dueFigures("no values for " + many, x, 40, 320, 0, many, 11 * many, 1, 8);
        }
    }

    private static void valuesForFourAlways() {
        DiscCoder x = fed(40);
        disguise(x, 10, 3, 9);
        for (int number = 11; number < 15; number++) {
            doubt(x, number);
        }
        readAll(x);
        dueFigures("values for four", x, 40, 320, 0, 4, 48, 0, 0);
        int[] word = Model.wordFrom(data(7));
        word[3] ^= 9;
        Model.solve(word, List.of(4, 5, 6, 7));
        dueSymbols("values for four", x, 19, word, false);
    }

    // "each of them (changed by it or not) counting as FILLED"
    private static void filledWithoutChange() {
        DiscCoder same = fed(30);
        doubt(same, 9);
        readAll(same);
        DiscCoder changed = fed(30);
        for (int i = 0; i < 12; i++) {
            scratchOuter(changed, 9, i, 100 + i);
        }
        doubt(changed, 9);
        readAll(changed);
        dueFigures("filled with what was there", same, 30, 240, 0, 1, 12, 0, 0);
        dueFigures("filled with other values", changed, 30, 240, 0, 1, 12, 0, 0);
        for (int t = 10; t < 22; t++) {
            dueOutput("filled with what was there", same, t, t - 12, false);
            dueOutput("filled with other values", changed, t, t - 12, false);
        }
    }

    // "Its eight first symbols are the next eight of the OUTPUT, all of them FLAGGED if it was
    // lost."
    private static void nextEightOfTheOutput() {
        DiscCoder x = fed(14);
        disguise(x, 11, 11, 5);
        for (int t = 0; t < 14; t++) {
            int row = t;
            Due.is("output before row " + t, 8 * row, () -> x.figure(1));
            Due.is("read row " + t, t == 12 ? 8 : 0, x::read);
            for (int i = 8 * t; i < 8 * t + 8; i++) {
                int place = i;
                Due.is("out(" + i + ")", data(t - 12)[i % 8], () -> x.out(place));
                Due.is("flagged(" + i + ")", row == 12, () -> x.flagged(place));
            }
            Due.is("output after row " + t, 8 * row + 8, () -> x.figure(1));
        }
        Due.is("flagged in all", 8, () -> x.figure(6));
    }

    // "An object is used for at most 512 calls": the last of them is answered as any other.
    private static void theLastOf512Calls() {
        DiscCoder x = fed(47);
        for (int t = 0; t < 47; t++) {
            x.read();
        }
        for (int call = 94; call < 500; call++) {
            x.check(call, call % 4);
        }
        Due.is("call 501", 47, () -> x.feed(frame(47)));
        Due.is("call 502", DONE, () -> scratched(x, 47, 9, 5));
        Due.is("call 503", 0, x::read);
        Due.is("call 504", NONE, x::read);
        Due.is("call 505", STATE, () -> x.feed(1));
        Due.is("call 506", 48, x::rows);
        Due.is("call 507", 1, () -> x.figure(2));
        Due.is("call 508", 226, () -> x.product(255, 255));
        Due.is("call 509", 0, () -> x.check(0, 3));
        Due.is("call 510", false, () -> x.flagged(383));
        Due.is("call 511", 5 ^ 255 - outer(46)[9], () -> x.symbol(47, 9));
        Due.is("call 512", data(35)[7], () -> x.out(383));
    }
}
