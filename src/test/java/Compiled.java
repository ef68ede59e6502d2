import java.io.ByteArrayOutputStream;
import java.io.IOException;
import java.io.InputStream;
import java.io.OutputStream;
import java.io.StringWriter;
import java.net.URI;
import java.util.HashMap;
import java.util.List;
import java.util.Map;
import javax.tools.FileObject;
import javax.tools.ForwardingJavaFileManager;
import javax.tools.JavaCompiler;
import javax.tools.JavaFileManager;
import javax.tools.JavaFileObject;
import javax.tools.SimpleJavaFileObject;
import javax.tools.ToolProvider;

/** Loads a class from a source in memory, and the project's other classes anew beside it. */
final class Compiled extends ClassLoader {
    private static final JavaCompiler COMPILER = ToolProvider.getSystemJavaCompiler();

    private final Map<String, byte[]> classes = new HashMap<>();

    Compiled(String name, String source) {
        super(ClassLoader.getPlatformClassLoader());
        JavaFileObject file = new SimpleJavaFileObject(URI.create("string:///" + name + ".java"), JavaFileObject.Kind.SOURCE) {
            @Override
            public CharSequence getCharContent(boolean ignored) {
                return source;
            }
        };
        StringWriter said = new StringWriter();
        List<String> options = List.of("--release", "17", "-proc:none", "-classpath", System.getProperty("java.class.path"));
        try (Memory memory = new Memory(COMPILER.getStandardFileManager(null, null, null))) {
            if (!COMPILER.getTask(said, memory, null, options, null, List.of(file)).call()) {
                throw new IllegalStateException("does not compile: " + said);
            }
            memory.made.forEach((made, bytes) -> classes.put(made, bytes.toByteArray()));
        } catch (IOException unclosed) {
            throw new IllegalStateException(unclosed);
        }
    }

    @Override
    protected Class<?> findClass(String name) throws ClassNotFoundException {
        byte[] bytes = classes.get(name);
        if (bytes == null) {
            try (InputStream in = Compiled.class.getResourceAsStream(name + ".class")) {
                if (in == null) {
                    throw new ClassNotFoundException(name);
                }
                bytes = in.readAllBytes();
            } catch (IOException unread) {
                throw new ClassNotFoundException(name, unread);
            }
        }
        return defineClass(name, bytes, 0, bytes.length);
    }

    /** Takes what javac makes, so that no file is written. */
    private static final class Memory extends ForwardingJavaFileManager<JavaFileManager> {
        final Map<String, ByteArrayOutputStream> made = new HashMap<>();

        Memory(JavaFileManager standard) {
            super(standard);
        }

        @Override
        public JavaFileObject getJavaFileForOutput(Location where, String name, JavaFileObject.Kind kind, FileObject sibling) {
            ByteArrayOutputStream bytes = new ByteArrayOutputStream();
            made.put(name, bytes);
            return new SimpleJavaFileObject(URI.create("memory:///" + name + ".class"), kind) {
                @Override
                public OutputStream openOutputStream() {
                    return bytes;
                }
            };
        }
    }
}
