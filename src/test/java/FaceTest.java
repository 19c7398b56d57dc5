import java.lang.reflect.Method;
import java.lang.reflect.Modifier;
import java.util.Arrays;
import java.util.Set;
import java.util.TreeSet;
import java.util.stream.Collectors;
import java.util.stream.Stream;

/** The class has the document's face, and beside it private members alone. */
public final class FaceTest {
    private static final String[] FACE = {
        "int feed(long) IllegalStateException",
        "int rows() ",
        "int symbol(int,int) IndexOutOfBoundsException",
        "void scratch(int,int,int) IndexOutOfBoundsException,IllegalArgumentException,"
            + "IllegalStateException",
        "void burst(int,int,int) IllegalArgumentException,IndexOutOfBoundsException,"
            + "IllegalStateException",
        "int read() NoSuchElementException",
        "int out(int) IndexOutOfBoundsException",
        "boolean flagged(int) IndexOutOfBoundsException",
        "int figure(int) IllegalArgumentException",
        "int check(long,int) IllegalArgumentException",
        "int product(int,int) IllegalArgumentException",
    };

    public static void main(String[] args) {
        Class<?> face = DiscCoder.class;
        Due.is("modifiers", Modifier.PUBLIC | Modifier.FINAL, face::getModifiers);
        Due.is("constructors", "[public DiscCoder()]",
            () -> Arrays.toString(face.getDeclaredConstructors()));
        Due.is("methods", new TreeSet<>(Arrays.asList(FACE)), () -> openMethods(face));
        Due.is("fields that are not private", 0L, () -> Arrays.stream(face.getDeclaredFields())
            .filter(f -> !Modifier.isPrivate(f.getModifiers())).count());
        Due.is("classes inside that are not static", 0L,
            () -> Arrays.stream(face.getDeclaredClasses())
                .filter(c -> !Modifier.isStatic(c.getModifiers())).count());
        Due.is("classes inside that are seen outside", 0L,
            () -> Arrays.stream(face.getDeclaredClasses())
                .filter(c -> Modifier.isPublic(c.getModifiers())
                    || Modifier.isProtected(c.getModifiers())).count());
        Due.is("private methods named like a public one", Set.of(), () -> namedLikePublic(face));
        Due.end("FaceTest");
    }

    private static Set<String> openMethods(Class<?> face) {
        return Arrays.stream(face.getDeclaredMethods())
            .filter(m -> !Modifier.isPrivate(m.getModifiers()))
            .map(FaceTest::line)
            .collect(Collectors.toCollection(TreeSet::new));
    }

    private static Set<String> namedLikePublic(Class<?> face) {
        Set<String> open = Arrays.stream(face.getDeclaredMethods())
            .filter(m -> Modifier.isPublic(m.getModifiers()))
            .map(Method::getName)
            .collect(Collectors.toSet());
        return Stream.concat(Stream.of(face), Arrays.stream(face.getDeclaredClasses()))
            .flatMap(c -> Arrays.stream(c.getDeclaredMethods()))
            .filter(m -> !Modifier.isPublic(m.getModifiers()))
            .map(Method::getName)
            .filter(open::contains)
            .collect(Collectors.toSet());
    }

    private static String line(Method m) {
        return m.getReturnType().getSimpleName() + " " + m.getName()
            + "(" + names(m.getParameterTypes()) + ") " + names(m.getExceptionTypes());
    }

    private static String names(Class<?>[] types) {
        return Arrays.stream(types).map(Class::getSimpleName).collect(Collectors.joining(","));
    }
}
