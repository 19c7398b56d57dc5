/** Calls that change nothing: those that are refused, and those that only answer. */
final class NoChange {
    interface State {
        DiscCoder make();
    }

    interface Asked {
        Object answer(DiscCoder x);
    }

    private final String what;
    private final State state;
    private final Asked asked;

    private NoChange(String what, State state, Asked asked) {
        this.what = what;
        this.state = state;
        this.asked = asked;
    }

    /** Looks at a call on a disc in that state, and at all that can be seen of it afterwards. */
    static void is(String what, Object due, State state, Asked asked) {
        DiscCoder x = state.make();
        Due.is(what, due, () -> asked.answer(x));
        Due.is(what + ", once more", due, () -> asked.answer(x));
        new NoChange(what + ", then ", state, asked).lookAtAll();
    }

    /** An object has 512 calls, so each part is looked at on a new one. */
    private void lookAtAll() {
        lookAtFigures(asked(), state.make());
        lookAtSymbols(asked(), state.make(), 0, 24);
        lookAtSymbols(asked(), state.make(), 24, 48);
        lookAtOutput(asked(), state.make(), 0, 192);
        lookAtOutput(asked(), state.make(), 192, 384);
        goOn(asked(), state.make());
    }

    private DiscCoder asked() {
        DiscCoder x = state.make();
        Due.answerOf(() -> asked.answer(x));
        return x;
    }

    private void compare(String call, DiscCoder x, DiscCoder untouched, Asked look) {
        Object due = Due.answerOf(() -> look.answer(untouched));
        Due.is(what + call, due, () -> look.answer(x));
    }

    private void lookAtFigures(DiscCoder x, DiscCoder untouched) {
        compare("rows()", x, untouched, DiscCoder::rows);
        for (int k = 0; k < 7; k++) {
            int figure = k;
            compare("figure(" + k + ")", x, untouched, y -> y.figure(figure));
        }
    }

    private void lookAtSymbols(DiscCoder x, DiscCoder untouched, int first, int end) {
        for (int n = 16 * first; n < 16 * end; n++) {
            int row = n / 16;
            int i = n % 16;
            compare("symbol(" + row + ", " + i + ")", x, untouched, y -> y.symbol(row, i));
        }
    }

    private void lookAtOutput(DiscCoder x, DiscCoder untouched, int first, int end) {
        for (int n = first; n < end; n++) {
            int i = n;
            compare("out(" + i + ")", x, untouched, y -> y.out(i));
            if (n % 4 == 3) {
                compare("flagged(" + i + ")", x, untouched, y -> y.flagged(i));
            }
        }
    }

    /** What can't be seen at once, such as the frames that later rows need, shows up later. */
    private void goOn(DiscCoder x, DiscCoder untouched) {
        for (int n = 0; n < 2; n++) {
            long data = Discs.frame(100 + n);
            compare("feed(" + data + ")", x, untouched, y -> y.feed(data));
        }
        int last = untouched.rows() - 1;
        for (int i = 0; i < 16; i++) {
            int place = i;
            compare("a symbol of the last row", x, untouched, y -> y.symbol(last, place));
        }
        for (int t = 0; t < 49; t++) {
            compare("read()", x, untouched, DiscCoder::read);
        }
        int end = untouched.figure(1);
        for (int i = Math.max(0, end - 8 * 12); i < end; i++) {
            int place = i;
            compare("out(" + i + ") after all rows", x, untouched, y -> y.out(place));
        }
        lookAtFigures(x, untouched);
    }
}
