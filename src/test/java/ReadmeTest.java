import java.io.IOException;
import java.lang.reflect.Method;
import java.lang.reflect.Modifier;
import java.nio.file.Files;
import java.nio.file.Path;
import java.util.List;
import java.util.stream.Collectors;

/** What README.md says of the use of the class is so. Runs in the project's directory. */
public final class ReadmeTest {
    private static final Path README = Path.of("README.md");
    private static final Path OWN_SOURCE = Path.of("src/test/java/ReadmeTest.java");

    public static void main(String[] args) throws IOException {
        String readme = stripped(Files.readAllLines(README));
        String ownSource = stripped(Files.readAllLines(OWN_SOURCE));
        String example = readme.split("```java\n", 2)[1].split("```", 2)[0];
        Due.is("README's example is the one that this test runs", true,
            () -> ownSource.contains(example));
        runExample();
        everyCallIsTold(readme);
        firstRowsAreZeros();
        Due.end("ReadmeTest");
    }

    private static String stripped(List<String> lines) {
        return lines.stream().map(String::strip).collect(Collectors.joining("\n"));
    }

    private static void runExample() {
        DiscCoder coder = new DiscCoder();
        for (int t = 0; t < 30; t++) {
            coder.feed(0x0807060504030201L + t);           // frame t: eight bytes, the lowest first
        }
        coder.burst(5 * 16, 3 * 16, 255);                  // rows 5, 6 and 7 are scratched all over
        while (coder.figure(0) < coder.rows()) {
            coder.read();                                  // 0, or 8 if what comes out is flagged
        }
        int symbol = coder.out(8 * (4 + 12));              // 5: frame 4 comes out in row 4 + 12
        boolean flagged = coder.flagged(8 * (4 + 12));     // false: it was put right
        int doubted = coder.figure(3);                     // 4: so many outer words were doubted
        int filled = coder.figure(4);                      // 48: so many symbols were filled
        Due.is("symbol", 5, () -> symbol);
        Due.is("flagged", false, () -> flagged);
        Due.is("doubted", 4, () -> doubted);
        Due.is("filled", 48, () -> filled);
        Due.is("no frame is lost", 0, () -> coder.figure(5));
        everyFrameComesOut(coder);
    }

    private static void everyFrameComesOut(DiscCoder coder) {
        for (int t = 0; t + 12 < coder.rows(); t++) {
            for (int i = 0; i < 8; i++) {
                int at = 8 * (t + 12) + i;
                int due = i == 0 ? 1 + t : i + 1;
                Due.is("out " + at, due, () -> coder.out(at));
            }
        }
    }

    private static void everyCallIsTold(String readme) {
        for (Method call : DiscCoder.class.getDeclaredMethods()) {
            if (Modifier.isPublic(call.getModifiers())) {
                Due.is(call.getName() + " is in README's table", true,
                    () -> readme.contains("\n| `" + call.getName() + "("));
            }
        }
    }

    private static void firstRowsAreZeros() {
        DiscCoder coder = new DiscCoder();
        for (int t = 0; t < 13; t++) {
            coder.feed(-1L);
            Due.is("read of row " + t, 0, coder::read);
        }
        for (int i = 0; i < 8 * 13; i++) {
            int at = i;
            Due.is("out " + at, i < 8 * 12 ? 0 : 255, () -> coder.out(at));
        }
    }
}
