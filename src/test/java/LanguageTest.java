import java.io.IOException;
import java.lang.reflect.Field;
import java.lang.reflect.Method;
import java.lang.reflect.Modifier;
import java.nio.file.Files;
import java.nio.file.Path;
import java.util.ArrayList;
import java.util.List;
import java.util.regex.Matcher;
import java.util.regex.Pattern;

/** The rules of LANGUAGE.md that can be seen in the source or by reflection. Runs in the project's folder. */
public final class LanguageTest {
    private static final Check CHECK = new Check("LanguageTest");
    private static final Path SOURCE = Path.of("src/main/java/DampLikeness.java");
    private static final String[] FORBIDDEN = {
        "throw", "throws", "try", "catch", "finally", "synchronized", "assert", "import", "package", "volatile",
        "native", "transient", "double", "float", "Object", "System.(?!arraycopy)\\w+", "Thread", "Runtime",
        "\\w+Exact", "hashCode", "toString", "equals", "getClass", "var", "yield"
    };

    public static void main(String[] args) throws IOException {
        String source = withoutComments(Files.readString(SOURCE));
        words(source);
        signs(source);
        classes();
        methodsStayShort(source);
        nothingIsMadeInACall(source);
        CHECK.finish();
    }

    private static String withoutComments(String source) {
        return source.replaceAll("(?s)/\\*.*?\\*/", "").replaceAll("//[^\n]*", "");
    }

    private static void words(String source) {
        for (String word : FORBIDDEN) {
            Matcher found = Pattern.compile("\\b" + word + "\\b").matcher(source);
            CHECK.due("the word " + word, found.find() ? 1 : 0, 0);
        }
    }

    private static void signs(String source) {
        for (String sign : new String[] {"->", "::", "@", "[][]", "..."}) {
            CHECK.due("the sign " + sign, source.contains(sign) ? 1 : 0, 0);
        }
        CHECK.due("signs beyond 127", source.chars().filter(c -> c > 127).count(), 0);
        CHECK.due("texts", source.chars().filter(c -> c == '"').count(), 0);
    }

    private static void classes() {
        List<Class<?>> all = new ArrayList<>(List.of(DampLikeness.class.getDeclaredClasses()));
        for (Class<?> inside : all) {
            CHECK.due(inside.getName() + " is private and static", inside.getModifiers()
                    & (Modifier.PRIVATE | Modifier.STATIC), Modifier.PRIVATE | Modifier.STATIC);
        }
        all.add(DampLikeness.class);
        CHECK.due("at most twelve classes", all.size() <= 12 ? 1 : 0, 1);
        for (Class<?> type : all) {
            int fields = 0;
            for (Field field : type.getDeclaredFields()) {
                boolean isStatic = Modifier.isStatic(field.getModifiers());
                fields += isStatic ? 0 : 1;
                CHECK.due(field + " is final if static", isStatic && !Modifier.isFinal(field.getModifiers()) ? 1 : 0, 0);
            }
            CHECK.due(type.getName() + ": at most twenty fields", fields <= 20 ? 1 : 0, 1);
            for (Method method : type.getDeclaredMethods()) {
                CHECK.due(method + ": at most seven parameters", method.getParameterCount() <= 7 ? 1 : 0, 1);
                CHECK.due(method + " bears a name of the face", inFace(method) ? 1 : 0, 0);
            }
        }
    }

    private static boolean inFace(Method method) {
        if (method.getDeclaringClass() == DampLikeness.class && Modifier.isPublic(method.getModifiers())) {
            return false;
        }
        for (Method open : DampLikeness.class.getMethods()) {
            if (open.getDeclaringClass() == DampLikeness.class && open.getName().equals(method.getName())) {
                return true;
            }
        }
        return false;
    }

    /** A member begins at an indent of 4 or 8 and ends at the brace of the same indent. */
    private static void methodsStayShort(String source) {
        Matcher method = Pattern.compile("(?ms)^( {4}| {8})(?! )[\\w\\[\\] ]+\\([^)]*\\) \\{\n.*?^\\1\\}").matcher(source);
        int seen = 0;
        while (method.find()) {
            seen++;
            long lines = method.group().lines().count();
            CHECK.due(method.group().lines().findFirst().orElse("") + ": at most sixty lines", lines <= 60 ? 1 : 0, 1);
        }
        CHECK.due("methods are seen", seen > 80 ? 1 : 0, 1);
    }

    /** Each "new" stands in a field or in a constructor, so that a run of calls makes nothing. */
    private static void nothingIsMadeInACall(String source) {
        String owner = "";
        for (String line : source.split("\n")) {
            Matcher head = Pattern.compile("^(?: {4}| {8})(?:[\\w\\[\\]]+ )*(\\w+)\\([^)]*\\) \\{$").matcher(line);
            if (head.find()) {
                owner = head.group(1);
            }
            if (line.equals("    }") || line.equals("        }")) {
                owner = "";
            }
            boolean inConstructor = owner.isEmpty() || Character.isUpperCase(owner.charAt(0));
            CHECK.due("made in " + owner + ": " + line.trim(), line.matches(".*\\bnew\\b.*") && !inConstructor ? 1 : 0, 0);
        }
    }
}
