/** Each promise by itself: ordinary inputs, the edges that the document names, wrong inputs. */
public final class PromiseTest extends Discs {
    private static final long BYTES_1_TO_8 = 0x0807060504030201L;

    public static void main(String[] args) {
        newObject();
        feed();
        feedWritesByDefinition();
        feedGoesOnAfterScratchAndRead();
        rows();
        symbol();
        scratch();
        burst();
        burstOfNone();
        read();
        readAfterMoreFrames();
        readMends();
        readRowBelowZero();
        readFills();
        readFillsWhatWasRight();
        readLosesWithFiveDoubted();
        readLosesUndoubtedNonWord();
        readFillsFourWhateverElse();
        readKeepsWordBelowZero();
        readLooksAtAllOuterSums();
        readLooksAtAllInnerSums();
        out();
        flagged();
        figure();
        check();
        product();
        Due.end("PromiseTest");
    }

    private static void newObject() {
        DiscCoder x = new DiscCoder();
        Due.is("1: rows()", 0, x::rows);
        Due.is("1: read()", NONE, x::read);
        Due.is("1: symbol(0, 0)", INDEX, () -> x.symbol(0, 0));
        Due.is("1: out(0)", INDEX, () -> x.out(0));
        dueFigures("1", x, 0, 0, 0, 0, 0, 0, 0);
        x.feed(1);
        x.read();
        Due.is("1: another object's rows()", 0, () -> new DiscCoder().rows());
        Due.is("1: another object's figure(0)", 0, () -> new DiscCoder().figure(0));
    }

    private static void feed() {
        DiscCoder x = new DiscCoder();
        for (int t = 0; t < 48; t++) {
            int number = t;
            Due.is("2: feed " + t, number, () -> x.feed(frame(number)));
        }
        int before = x.symbol(47, 0);
        Due.is("2: feed 48", STATE, () -> x.feed(5));
        Due.is("2: rows() after it", 48, x::rows);
        Due.is("2: symbol(47, 0) after it", before, () -> x.symbol(47, 0));
        x.read();
        Due.is("2: feed 48 with a row read", STATE, () -> x.feed(5));
    }

    private static void feedWritesByDefinition() {
        DiscCoder x = fed(30);
        for (int t = 0; t < 30; t++) {
            int[] now = outer(t);
            int[] before = outer(t - 1);
            for (int i = 0; i < 16; i++) {
                int row = t;
                int place = i;
                int plain = i % 2 == 0 ? now[i] : before[i];
                Due.is("2: symbol(" + t + ", " + i + ")", i < 8 ? plain : 255 - plain,
                    () -> x.symbol(row, place));
            }
        }
    }

    private static void feedGoesOnAfterScratchAndRead() {
        DiscCoder clean = fed(20);
        DiscCoder x = fed(10);
        x.burst(0, 160, 255);
        for (int t = 0; t < 10; t++) {
            x.read();
        }
        for (int t = 10; t < 20; t++) {
            int number = t;
            Due.is("2: feed when rows were read", number, () -> x.feed(frame(number)));
            for (int i = 0; i < 16; i++) {
                int place = i;
                Due.is("2: written as without scratches", clean.symbol(t, i),
                    () -> x.symbol(number, place));
            }
        }
    }

    private static void rows() {
        DiscCoder x = fed(3);
        Due.is("3: rows()", 3, x::rows);
        x.read();
        x.scratch(1, 1, 1);
        Due.is("3: rows() is not changed by reading and scratching", 3, x::rows);
        x.feed(0);
        Due.is("3: rows()", 4, x::rows);
    }

    private static void symbol() {
        DiscCoder x = new DiscCoder();
        x.feed(BYTES_1_TO_8);
        Due.is("4: symbol(0, 0)", 1, () -> x.symbol(0, 0));
        Due.is("4: symbol(0, 1)", 0, () -> x.symbol(0, 1));
        Due.is("4: symbol(0, 8)", 255, () -> x.symbol(0, 8));
        Due.is("4: symbol(0, 12)", 150, () -> x.symbol(0, 12));
        Due.is("4: symbol(0, 15)", 255, () -> x.symbol(0, 15));
        Due.is("4: symbol(0, 16)", INDEX, () -> x.symbol(0, 16));
        Due.is("4: symbol(0, -1)", INDEX, () -> x.symbol(0, -1));
        Due.is("4: symbol(-1, 0)", INDEX, () -> x.symbol(-1, 0));
        Due.is("4: symbol(-1, 16)", INDEX, () -> x.symbol(-1, 16));
        Due.is("4: symbol(1, 0)", INDEX, () -> x.symbol(1, 0));
        Due.is("4: symbol(MIN, MIN)", INDEX,
            () -> x.symbol(Integer.MIN_VALUE, Integer.MIN_VALUE));
        x.scratch(0, 8, 255);
        x.read();
        Due.is("4: symbol(0, 8), scratched and read", 0, () -> x.symbol(0, 8));
    }

    private static void scratch() {
        DiscCoder x = fed(2);
        int was = x.symbol(1, 5);
        Due.is("5: scratch(1, 5, 7)", DONE, () -> scratched(x, 1, 5, 7));
        Due.is("5: symbol(1, 5)", was ^ 7, () -> x.symbol(1, 5));
        Due.is("5: scratch(1, 5, 255)", DONE, () -> scratched(x, 1, 5, 255));
        Due.is("5: scratch(1, 5, 0)", DONE, () -> scratched(x, 1, 5, 0));
        Due.is("5: symbol(1, 5)", was ^ 7 ^ 255, () -> x.symbol(1, 5));
        Due.is("5: scratch(1, 5, 256)", ARGUMENT, () -> scratched(x, 1, 5, 256));
        Due.is("5: scratch(1, 5, -1)", ARGUMENT, () -> scratched(x, 1, 5, -1));
        Due.is("5: scratch(2, 0, 1)", INDEX, () -> scratched(x, 2, 0, 1));
        Due.is("5: scratch(-1, 0, 1)", INDEX, () -> scratched(x, -1, 0, 1));
        Due.is("5: scratch(0, -1, 1)", INDEX, () -> scratched(x, 0, -1, 1));
        x.read();
        Due.is("5: scratch(0, 16, 256): first the index", INDEX, () -> scratched(x, 0, 16, 256));
        Due.is("5: scratch(0, 0, 256): then the argument", ARGUMENT,
            () -> scratched(x, 0, 0, 256));
        Due.is("5: scratch(0, 15, 1): then the state", STATE, () -> scratched(x, 0, 15, 1));
        Due.is("5: scratch(0, 15, 0)", STATE, () -> scratched(x, 0, 15, 0));
        Due.is("5: symbol(0, 15)", fed(1).symbol(0, 15), () -> x.symbol(0, 15));
        Due.is("5: symbol(1, 5)", was ^ 7 ^ 255, () -> x.symbol(1, 5));
    }

    private static void burst() {
        DiscCoder clean = fed(3);
        DiscCoder x = fed(3);
        Due.is("6: burst(14, 20, 9)", DONE, () -> burst(x, 14, 20, 9));
        for (int n = 0; n < 48; n++) {
            int number = n;
            Due.is("6: symbol number " + n,
                clean.symbol(n / 16, n % 16) ^ (n >= 14 && n < 34 ? 9 : 0),
                () -> x.symbol(number / 16, number % 16));
        }
        Due.is("6: the whole disc", DONE, () -> burst(x, 0, 48, 255));
        Due.is("6: one too many", INDEX, () -> burst(x, 0, 49, 1));
        Due.is("6: the last", DONE, () -> burst(x, 47, 1, 255));
        Due.is("6: one behind the last", INDEX, () -> burst(x, 48, 1, 1));
        Due.is("6: one before the first", INDEX, () -> burst(x, -1, 1, 1));
        Due.is("6: a sum that wraps around", INDEX, () -> burst(x, Integer.MAX_VALUE, 2, 1));
        Due.is("6: most", INDEX, () -> burst(x, 1, Integer.MAX_VALUE, 1));
        Due.is("6: from MIN", INDEX,
            () -> burst(x, Integer.MIN_VALUE, Integer.MAX_VALUE, 1));
        Due.is("6: many below 0", ARGUMENT, () -> burst(x, 0, -1, 1));
        Due.is("6: by 256 before the index", ARGUMENT, () -> burst(x, 48, 1, 256));
        Due.is("6: by -1", ARGUMENT, () -> burst(x, 0, 1, -1));
        x.read();
        Due.is("6: a row that was read", STATE, () -> burst(x, 15, 2, 1));
        Due.is("6: index before state", INDEX, () -> burst(x, 15, 34, 1));
        Due.is("6: by 0 in a row that was read", STATE, () -> burst(x, 0, 1, 0));
        Due.is("6: the next row", DONE, () -> burst(x, 16, 1, 0));
        Due.is("6: after all, symbol(1, 0)", clean.symbol(1, 0) ^ 9 ^ 255, () -> x.symbol(1, 0));
        Due.is("6: after all, symbol(2, 15)", clean.symbol(2, 15), () -> x.symbol(2, 15));
        Due.is("6: after all, symbol(0, 15)", clean.symbol(0, 15) ^ 9 ^ 255,
            () -> x.symbol(0, 15));
    }

    private static void burstOfNone() {
        DiscCoder x = new DiscCoder();
        int[] starts = {0, 1, -1, 768, Integer.MIN_VALUE, Integer.MAX_VALUE};
        for (int from : starts) {
            Due.is("6: none from " + from, DONE, () -> burst(x, from, 0, 255));
        }
        Due.is("6: none by 256", ARGUMENT, () -> burst(x, 0, 0, 256));
        Due.is("6: none by -1", ARGUMENT, () -> burst(x, 0, 0, -1));
        x.feed(1);
        x.read();
        Due.is("6: none in a row that was read", DONE, () -> burst(x, 3, 0, 1));
    }

    private static void read() {
        DiscCoder x = fed(48);
        for (int t = 0; t < 48; t++) {
            Due.is("7: read row " + t, 0, x::read);
        }
        Due.is("7: read row 48", NONE, x::read);
        dueFigures("7: a clean disc", x, 48, 384, 0, 0, 0, 0, 0);
        for (int t = 8; t < 48; t++) {
            dueOutput("7: a clean disc", x, t, t - 12, false);
        }
    }

    private static void readAfterMoreFrames() {
        DiscCoder x = new DiscCoder();
        for (int t = 0; t < 20; t++) {
            x.feed(frame(t));
            Due.is("7: read what was just fed", 0, x::read);
            Due.is("7: read again", NONE, x::read);
            dueOutput("7: fed and read by turns", x, t, t - 12, false);
        }
        dueFigures("7: fed and read by turns", x, 20, 160, 0, 0, 0, 0, 0);
    }

    private static void readMends() {
        for (int i = 0; i < 16; i++) {
            DiscCoder x = fed(30);
            scratchOuter(x, 7, i, 1 + 16 * i);
            readAll(x);
            dueFigures("7: one wrong at " + i, x, 30, 240, 1, 0, 0, 0, 0);
            for (int t = 0; t < 30; t++) {
                dueOutput("7: one wrong at " + i, x, t, t - 12, false);
            }
        }
    }

    private static void readRowBelowZero() {
        DiscCoder one = fed(20);
        one.scratch(0, 1, 5);
        Due.is("7: the outer word -1 is mended", 0, one::read);
        dueFigures("7: the outer word -1 is mended", one, 1, 8, 1, 0, 0, 0, 0);
        DiscCoder two = fed(20);
        two.scratch(0, 1, 5);
        two.scratch(0, 15, 6);
        Due.is("7: the outer word -1 is doubted", 0, two::read);
        dueFigures("7: the outer word -1 is doubted", two, 1, 8, 0, 1, 1, 0, 0);
        readAll(two);
        dueFigures("7: it is in twelve inner words", two, 20, 160, 0, 1, 12, 0, 0);
        for (int t = 0; t < 20; t++) {
            dueOutput("7: and filled in each", two, t, t - 12, false);
        }
    }

    private static void readFills() {
        for (int many = 1; many <= 4; many++) {
            DiscCoder x = fed(40);
            for (int number = 10; number < 10 + many; number++) {
                scratchOuter(x, number, 2, 77);
                scratchOuter(x, number, 5, 200);
                scratchOuter(x, number, 8, 3);
            }
            readAll(x);
            dueFigures("7: " + many + " doubted", x, 40, 320, 0, many, 12 * many, 0, 0);
            for (int t = 0; t < 40; t++) {
                dueOutput("7: " + many + " doubted", x, t, t - 12, false);
            }
        }
    }

    private static void readFillsWhatWasRight() {
        DiscCoder x = fed(40);
        scratchOuter(x, 10, 12, 1);
        scratchOuter(x, 10, 13, 1);
        readAll(x);
        dueFigures("7: only checks are wrong", x, 40, 320, 0, 1, 12, 0, 0);
        DiscCoder last = fed(11);
        last.scratch(10, 0, 1);
        last.scratch(10, 2, 1);
        readAll(last);
        dueFigures("7: the last row's even symbols wait", last, 11, 88, 0, 0, 0, 0, 0);
        last.feed(frame(11));
        last.read();
        dueFigures("7: for the next row", last, 12, 96, 0, 1, 1, 0, 0);
    }

    private static void readLosesWithFiveDoubted() {
        DiscCoder x = fed(40);
        for (int number = 10; number < 15; number++) {
            scratchOuter(x, number, 0, 77);
            scratchOuter(x, number, 7, 200);
        }
        for (int t = 0; t < 40; t++) {
            boolean five = t >= 15 && t <= 22;
            Due.is("7: read with five doubted, row " + t, five ? 8 : 0, x::read);
            // Symbol 0 of the outer word n is in the inner word read in row n + 12.
            int[] due = data(t - 12);
            if (five && t - 12 >= 10) {
                due[0] ^= 77;
            }
            if (five && t - 5 >= 10 && t - 5 < 15) {
                due[7] ^= 200;
            }
            dueSymbols("7: five doubted stay", x, t, due, five);
        }
        // 8 rows with five are lost; on either side are rows with 1, 2, 3 and 4 doubted.
        dueFigures("7: five doubted", x, 40, 320, 0, 5, 20, 8, 64);
    }

    private static void readLosesUndoubtedNonWord() {
        DiscCoder x = fed(40);
        disguise(x, 10);
        readAll(x);
        // Another word in its place is not mended nor doubted; where it differs from the right
        // one, the inner words that have these symbols are none and have nothing to fill.
        dueFigures("7: another outer word", x, 40, 320, 0, 0, 0, 1, 8);
        int[] due = data(10 - 3);
        due[3] ^= 9;
        dueSymbols("7: another outer word", x, 10 - 3 + 12, due, true);
        dueOutput("7: the row before", x, 18, 6, false);
        dueOutput("7: the row after", x, 20, 8, false);
    }

    private static void readFillsFourWhateverElse() {
        for (int many = 3; many <= 4; many++) {
            DiscCoder x = fed(40);
            disguise(x, 10);
            for (int number = 11; number < 11 + many; number++) {
                scratchOuter(x, number, 14, 1);
                scratchOuter(x, number, 15, 1);
            }
            readAll(x);
            int lost = many == 4 ? 0 : 1;
            dueFigures("7: one wrong beside " + many + " doubted", x,
                40, 320, 0, many, 12 * many - lost * many, lost, 8 * lost);
            Due.is("7: four values there always are", 9 ^ data(7)[3], () -> x.out(19 * 8 + 3));
            Due.is("7: but wrong ones here", many == 4, () -> x.out(19 * 8 + 4) != data(7)[4]);
        }
    }

    private static void readKeepsWordBelowZero() {
        DiscCoder x = fed(20);
        x.scratch(0, 7, 44);
        x.scratch(0, 15, 1);
        for (int number = 0; number < 4; number++) {
            scratchOuter(x, number, 14, 1);
            scratchOuter(x, number, 15, 1);
        }
        readAll(x);
        dueSymbols("7: the outer word -1 stays", x, 4, new int[] {0, 0, 0, 0, 0, 0, 0, 44}, true);
    }

    private static void readLooksAtAllOuterSums() {
        for (int k = 0; k < 4; k++) {
            DiscCoder x = fed(30);
            DiscCoder oneMore = fed(30);
            int[] fault = faultOfOneSum(k);
            for (int i = 0; i < 4; i++) {
                scratchOuter(x, 9, 12 + i, fault[i]);
                scratchOuter(oneMore, 9, 12 + i, fault[i]);
            }
            scratchOuter(oneMore, 9, 4, 100);
            readAll(x);
            readAll(oneMore);
            dueFigures("7: sum " + k + " alone is not 0", x, 30, 240, 0, 1, 12, 0, 0);
            dueFigures("7: as one fault but for sum " + k, oneMore, 30, 240, 0, 1, 12, 0, 0);
        }
    }

    private static void readLooksAtAllInnerSums() {
        for (int k = 0; k < 4; k++) {
            DiscCoder x = fed(30);
            int[] fault = faultOfOneSum(k);
            for (int i = 0; i < 4; i++) {
                // Symbol j of the inner word 7 is in the outer word 7 + j.
                disguise(x, 7 + 8 + i, 8 + i, fault[i]);
            }
            readAll(x);
            dueFigures("7: inner sum " + k + " alone is not 0", x, 30, 240, 0, 0, 0, 1, 8);
            dueOutput("7: inner sum " + k + " alone is not 0", x, 19, 7, true);
        }
    }

    private static void out() {
        DiscCoder x = fed(20);
        Due.is("8: nothing read", INDEX, () -> x.out(0));
        for (int t = 0; t < 13; t++) {
            x.read();
        }
        Due.is("8: the first of frame 0", data(0)[0], () -> x.out(96));
        Due.is("8: the last", data(0)[7], () -> x.out(103));
        Due.is("8: the first", 0, () -> x.out(0));
        Due.is("8: behind the last", INDEX, () -> x.out(104));
        Due.is("8: -1", INDEX, () -> x.out(-1));
        Due.is("8: MAX", INDEX, () -> x.out(Integer.MAX_VALUE));
    }

    private static void flagged() {
        DiscCoder x = fed(24);
        Due.is("9: nothing read", INDEX, () -> x.flagged(0));
        disguise(x, 10);
        for (int t = 0; t < 21; t++) {
            x.read();
        }
        for (int i = 0; i < 168; i++) {
            int place = i;
            Due.is("9: flagged(" + i + ")", i / 8 == 19, () -> x.flagged(place));
        }
        Due.is("9: behind the last", INDEX, () -> x.flagged(168));
        Due.is("9: -1", INDEX, () -> x.flagged(-1));
        Due.is("9: MIN", INDEX, () -> x.flagged(Integer.MIN_VALUE));
    }

    private static void figure() {
        DiscCoder x = fed(40);
        scratchOuter(x, 2, 6, 6);
        scratchOuter(x, 3, 12, 6);
        scratchOuter(x, 4, 15, 6);
        disguise(x, 8);
        disguise(x, 30);
        scratchOuter(x, 20, 0, 1);
        scratchOuter(x, 20, 1, 1);
        readAll(x);
        dueFigures("10", x, 40, 320, 3, 1, 12, 2, 16);
        Due.is("10: figure(-1)", ARGUMENT, () -> x.figure(-1));
        Due.is("10: figure(7)", ARGUMENT, () -> x.figure(7));
        Due.is("10: figure(MIN)", ARGUMENT, () -> x.figure(Integer.MIN_VALUE));
    }

    private static void check() {
        DiscCoder x = new DiscCoder();
        Due.is("11: check 0", 69, () -> x.check(BYTES_1_TO_8, 0));
        Due.is("11: check 3", 245, () -> x.check(BYTES_1_TO_8, 3));
        long[] datas = {0, 1, -1, Long.MIN_VALUE, Long.MAX_VALUE, 0x80FF7F0001FE55AAL, 1L << 56};
        for (long data : datas) {
            int[] word = new int[12];
            for (int i = 0; i < 8; i++) {
                word[i] = (int) (data >>> 8 * i & 255);
            }
            for (int k = 0; k < 4; k++) {
                word[8 + k] = x.check(data, k);
            }
            Due.is("11: a word with the checks of " + data, true, () -> Model.isWord(word));
        }
        Due.is("11: check(1, 4)", ARGUMENT, () -> x.check(1, 4));
        Due.is("11: check(1, -1)", ARGUMENT, () -> x.check(1, -1));
        checkChangesNothing();
    }

    private static void checkChangesNothing() {
        DiscCoder x = new DiscCoder();
        for (int t = 0; t < 20; t++) {
            x.check(~frame(t), 1);
            x.feed(frame(t));
            x.check(~frame(t), 2);
        }
        for (int t = 0; t < 20; t++) {
            x.check(~frame(t), t % 4);
            x.read();
            x.check(~frame(t), t % 4);
            dueOutput("11: read beside checks", x, t, t - 12, false);
        }
        dueFigures("11: read beside checks", x, 20, 160, 0, 0, 0, 0, 0);
    }

    private static void product() {
        DiscCoder x = new DiscCoder();
        for (int a = 0; a < 256; a += 15) {
            for (int b = 0; b < 256; b += 17) {
                int left = a;
                int right = b;
                Due.is("12: product(" + a + ", " + b + ")", Model.polynomialProduct(a, b),
                    () -> x.product(left, right));
            }
        }
        Due.is("12: product(2, 128)", 29, () -> x.product(2, 128));
        Due.is("12: product(255, 255)", 226, () -> x.product(255, 255));
        Due.is("12: product(1, 255)", 255, () -> x.product(1, 255));
        Due.is("12: product(0, 255)", 0, () -> x.product(0, 255));
        int[] none = {-1, 256, Integer.MIN_VALUE, Integer.MAX_VALUE};
        for (int a : none) {
            Due.is("12: product(" + a + ", 0)", ARGUMENT, () -> x.product(a, 0));
            Due.is("12: product(0, " + a + ")", ARGUMENT, () -> x.product(0, a));
        }
    }
}
