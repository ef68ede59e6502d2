import java.io.ByteArrayOutputStream;
import java.io.IOException;
import java.io.InputStream;
import java.io.OutputStream;
import java.io.StringWriter;
import java.lang.reflect.Method;
import java.net.URI;
import java.nio.file.Files;
import java.nio.file.Path;
import java.util.HashMap;
import java.util.List;
import java.util.Map;
import java.util.stream.IntStream;
import javax.tools.FileObject;
import javax.tools.ForwardingJavaFileManager;
import javax.tools.JavaCompiler;
import javax.tools.JavaFileManager;
import javax.tools.JavaFileObject;
import javax.tools.SimpleJavaFileObject;
import javax.tools.ToolProvider;

/** Breaks the class in each way that an edge tells, and sees that the edge fails then. Runs in the project's folder. */
public final class BreaksTest {
    private static final Check CHECK = new Check("BreaksTest");
    private static final Path SOURCE = Path.of("src/main/java/DampLikeness.java");
    private static final JavaCompiler COMPILER = ToolProvider.getSystemJavaCompiler();

    public static void main(String[] args) throws IOException {
        String plain = Break.plain(Files.readString(SOURCE));
        List<Edge> edges = Edges.all();
        CHECK.due("the class as it is fails", IntStream.range(0, edges.size()).filter(Edges::fails).count(), 0);
        IntStream.range(0, edges.size()).parallel().forEach(number -> breakEach(plain, edges.get(number), number));
        CHECK.finish();
    }

    private static void breakEach(String plain, Edge edge, int number) {
        said(edge.name() + ": tells how to break it", !edge.breaks().isEmpty());
        for (Break one : edge.breaks()) {
            String name = edge.name() + ", broken " + one;
            try {
                said(name + ": fails", failsBroken(one.applyTo(plain), number));
            } catch (ReflectiveOperationException | IllegalStateException wrong) {
                said(name + ": " + wrong.getMessage(), false);
            }
        }
    }

    private static synchronized void said(String what, boolean holds) {
        CHECK.due(what, holds ? 1 : 0, 1);
    }

    private static boolean failsBroken(String source, int number) throws ReflectiveOperationException {
        Method fails = new Broken(compiled(source)).loadClass("Edges").getDeclaredMethod("fails", int.class);
        fails.setAccessible(true);
        return (boolean) fails.invoke(null, number);
    }

    private static Map<String, byte[]> compiled(String source) {
        JavaFileObject file = new SimpleJavaFileObject(URI.create("string:///DampLikeness.java"), JavaFileObject.Kind.SOURCE) {
            @Override
            public CharSequence getCharContent(boolean ignored) {
                return source;
            }
        };
        StringWriter said = new StringWriter();
        List<String> options = List.of("--release", "17", "-proc:none");
        try (Memory memory = new Memory(COMPILER.getStandardFileManager(null, null, null))) {
            if (!COMPILER.getTask(said, memory, null, options, null, List.of(file)).call()) {
                throw new IllegalStateException("does not compile: " + said);
            }
            Map<String, byte[]> classes = new HashMap<>();
            memory.made.forEach((name, bytes) -> classes.put(name, bytes.toByteArray()));
            return classes;
        } catch (IOException unclosed) {
            throw new IllegalStateException(unclosed);
        }
    }

    /** Takes what javac makes, so that no file is written. */
    private static final class Memory extends ForwardingJavaFileManager<JavaFileManager> {
        final Map<String, ByteArrayOutputStream> made = new HashMap<>();

        Memory(JavaFileManager standard) {
            super(standard);
        }

        @Override
        public JavaFileObject getJavaFileForOutput(Location where, String name, JavaFileObject.Kind kind, FileObject sibling) {
            ByteArrayOutputStream bytes = new ByteArrayOutputStream();
            made.put(name, bytes);
            return new SimpleJavaFileObject(URI.create("memory:///" + name + ".class"), kind) {
                @Override
                public OutputStream openOutputStream() {
                    return bytes;
                }
            };
        }
    }

    /** Loads the broken class, and the tests anew beside it. */
    private static final class Broken extends ClassLoader {
        private final Map<String, byte[]> classes;

        Broken(Map<String, byte[]> classes) {
            super(ClassLoader.getPlatformClassLoader());
            this.classes = classes;
        }

        @Override
        protected Class<?> findClass(String name) throws ClassNotFoundException {
            byte[] bytes = classes.get(name);
            if (bytes == null) {
                try (InputStream in = BreaksTest.class.getResourceAsStream(name + ".class")) {
                    if (in == null) {
                        throw new ClassNotFoundException(name);
                    }
                    bytes = in.readAllBytes();
                } catch (IOException unread) {
                    throw new ClassNotFoundException(name, unread);
                }
            }
            return defineClass(name, bytes, 0, bytes.length);
        }
    }
}
