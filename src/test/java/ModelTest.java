import java.util.Random;

/** Long runs of calls, answered by the class and by the model; the seeds are fixed. */
public final class ModelTest {
    private static final int RUNS = 800;
    private static final int CALLS = 360;
    private static final int MOST_CALLS = 512;
    private static final int[] EDGES = {
        Integer.MIN_VALUE, -1, 0, 1, 7, 8, 15, 16, 47, 48, 255, 256, 383, 384, 767, 768,
        Integer.MAX_VALUE - 15, Integer.MAX_VALUE,
    };
    private static final int[] goodWith = new int[13];
    private static final int[] lostWith = new int[13];

    private final Random random;
    private final int run;
    private final DiscCoder coder = new DiscCoder();
    private final Model model = new Model();
    /** Of a hundred calls, so many scratch; it differs from run to run. */
    private final int roughness;
    private int calls;

    private ModelTest(int run) {
        this.run = run;
        random = new Random(run);
        roughness = run % 8 * 6;
    }

    public static void main(String[] args) {
        for (int run = 0; run < RUNS; run++) {
            new ModelTest(run).go();
        }
        Due.is("each kind of inner word was met", true, ModelTest::allMet);
        Due.end("ModelTest");
    }

    private static boolean allMet() {
        boolean met = lostWith[5] > 0;
        for (int doubted = 0; doubted <= 4; doubted++) {
            met &= goodWith[doubted] > 0;
        }
        for (int doubted = 0; doubted <= 3; doubted++) {
            met &= lostWith[doubted] > 0;
        }
        return met;
    }

    private void go() {
        if (run % 3 == 0) {
            fillDisc();
        }
        while (calls < CALLS) {
            step();
        }
        lookAtEnd();
        for (int doubted = 0; doubted <= 12; doubted++) {
            goodWith[doubted] += model.goodWith[doubted];
            lostWith[doubted] += model.lostWith[doubted];
        }
    }

    private void fillDisc() {
        for (int t = 0; t < 48; t++) {
            feed(random.nextLong());
        }
    }

    private void step() {
        int kind = random.nextInt(100);
        if (kind < roughness) {
            damage();
        } else if (kind < roughness + 20) {
            feed(random.nextInt(4) == 0 ? random.nextInt(3) - 1 : random.nextLong());
        } else if (kind < roughness + 38) {
            compare("read()", coder::read, model::read);
        } else {
            look();
        }
    }

    private void damage() {
        int lastRow = Math.max(model.rows() - 1, 0);
        int fresh = lastRow - random.nextInt(Math.max(1, lastRow - model.figure(0) + 1));
        switch (random.nextInt(6)) {
            case 0:
                scratch(number(48), number(16), number(256));
                break;
            case 1:
                burst(number(768), number(40), number(256));
                break;
            case 2:
                burst(fresh * 16 + random.nextInt(16), random.nextInt(24), random.nextInt(256));
                break;
            case 3:
                disguise(fresh);
                break;
            default:
                scratch(fresh, random.nextInt(16), random.nextInt(256));
        }
    }

    /** Makes the outer word of a row another word, or nearly so, which no mending finds out. */
    private void disguise(int row) {
        int[] beginning = new int[12];
        beginning[random.nextInt(12)] = 1 + random.nextInt(255);
        int[] other = Model.wordFrom(beginning);
        if (random.nextBoolean()) {
            other[random.nextInt(16)] ^= random.nextInt(256);
        }
        for (int i = 0; i < 16; i++) {
            if (other[i] != 0) {
                scratch(i % 2 == 0 ? row : row + 1, i, other[i]);
            }
        }
    }

    private void look() {
        int outputs = Math.max(1, model.figure(1) + 1);
        int i = random.nextInt(5) == 0 ? number(384) : random.nextInt(outputs);
        int row = number(48);
        int place = number(16);
        int k = random.nextInt(10) - 1;
        int a = number(256);
        int b = number(256);
        long data = random.nextLong();
        switch (random.nextInt(7)) {
            case 0:
                compare("rows()", coder::rows, model::rows);
                break;
            case 1:
                compare("symbol(" + row + ", " + place + ")",
                    () -> coder.symbol(row, place), () -> model.symbol(row, place));
                break;
            case 2:
                compare("out(" + i + ")", () -> coder.out(i), () -> model.out(i));
                break;
            case 3:
                compare("flagged(" + i + ")", () -> coder.flagged(i), () -> model.flagged(i));
                break;
            case 4:
                compare("figure(" + k + ")", () -> coder.figure(k), () -> model.figure(k));
                break;
            case 5:
                compare("check(" + data + ", " + k + ")",
                    () -> coder.check(data, k), () -> model.check(data, k));
                break;
            default:
                compare("product(" + a + ", " + b + ")",
                    () -> coder.product(a, b), () -> model.product(a, b));
        }
    }

    private int number(int below) {
        return random.nextInt(8) == 0
            ? EDGES[random.nextInt(EDGES.length)] : random.nextInt(below);
    }

    private void feed(long data) {
        compare("feed(" + data + ")", () -> coder.feed(data), () -> model.feed(data));
    }

    private void scratch(int row, int i, int by) {
        compare("scratch(" + row + ", " + i + ", " + by + ")",
            () -> {
                coder.scratch(row, i, by);
                return 0;
            },
            () -> {
                model.scratch(row, i, by);
                return 0;
            });
    }

    private void burst(int from, int many, int by) {
        compare("burst(" + from + ", " + many + ", " + by + ")",
            () -> {
                coder.burst(from, many, by);
                return 0;
            },
            () -> {
                model.burst(from, many, by);
                return 0;
            });
    }

    private void compare(String what, Due.Call asked, Due.Call due) {
        calls++;
        Due.is("run " + run + ", call " + calls + ": " + what, Due.answerOf(due), asked);
    }

    /** Looks at the state the run came to, as far as the document's 512 calls go. */
    private void lookAtEnd() {
        for (int k = 0; k < 7; k++) {
            int figure = k;
            compare("figure(" + k + ")", () -> coder.figure(figure), () -> model.figure(figure));
        }
        while (calls < MOST_CALLS) {
            look();
        }
    }
}
