import java.io.IOException;
import java.lang.reflect.Method;
import java.nio.file.Files;
import java.nio.file.Path;
import java.util.List;
import java.util.stream.IntStream;

/** Breaks the class in each way that an edge tells, and sees that the edge fails then. Runs in the project's folder. */
public final class BreaksTest {
    private static final Check CHECK = new Check("BreaksTest");
    private static final Path SOURCE = Path.of("src/main/java/DampLikeness.java");

    public static void main(String[] args) throws IOException {
        String plain = Break.plain(Files.readString(SOURCE));
        List<Edge> edges = Edges.all();
        CHECK.due("the class as it is fails", IntStream.range(0, edges.size()).filter(Edges::fails).count(), 0);
        IntStream.range(0, edges.size()).parallel().forEach(number -> breakEach(plain, edges.get(number), number));
        CHECK.finish();
    }

    private static void breakEach(String plain, Edge edge, int number) {
        said(edge.name() + ": tells how to break it", !edge.breaks().isEmpty());
        for (Break one : edge.breaks()) {
            String name = edge.name() + ", broken " + one;
            try {
                said(name + ": fails", failsBroken(one.applyTo(plain), number));
            } catch (ReflectiveOperationException | IllegalStateException wrong) {
                said(name + ": " + wrong.getMessage(), false);
            }
        }
    }

    private static synchronized void said(String what, boolean holds) {
        CHECK.due(what, holds ? 1 : 0, 1);
    }

    private static boolean failsBroken(String source, int number) throws ReflectiveOperationException {
        Method fails = new Compiled("DampLikeness", source).loadClass("Edges").getDeclaredMethod("fails", int.class);
        fails.setAccessible(true);
        return (boolean) fails.invoke(null, number);
    }
}
