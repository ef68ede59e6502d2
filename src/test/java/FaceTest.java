import java.lang.reflect.Constructor;
import java.lang.reflect.Field;
import java.lang.reflect.Method;
import java.lang.reflect.Modifier;
import java.util.TreeSet;

/** The public face: all of it, and nothing beside it. */
public final class FaceTest {
    private static final String[] METHODS = {
        "int feed(int)", "int wall()", "int fault()", "int told(int)", "int cell(int)", "int leak(int)",
        "int crack(int,int)", "int likeness(int,int)", "int day(int,int)", "int look()", "int brush(int)",
        "int lead(int,int)", "int wind(int)", "int fill(int,boolean)", "int drift(int)", "int undo()",
        "int shown(int,int)", "int first(int,int)", "int leadTo(int,int,int,int,int)",
        "int often(int,int,int,int)", "int wasRain(int)", "int rainToTell(int)", "int dryIn()",
        "int either(int,int,int)", "int rainy(int,int)", "int write(int,int)", "int tear()", "int judge()",
        "int seed(int)", "int keep(int)", "int goBack(int)"
    };

    public static void main(String[] args) {
        Check check = new Check("FaceTest");
        constants(check);
        methods(check);
        constructors(check);
        check.due("the class is public and final",
                DampLikeness.class.getModifiers() & (Modifier.PUBLIC | Modifier.FINAL), Modifier.PUBLIC | Modifier.FINAL);
        check.finish();
    }

    private static void constants(Check check) {
        check.due("NONE", DampLikeness.NONE, -1);
        check.due("UNKNOWN", DampLikeness.UNKNOWN, -1000000001);
        check.due("OUTSIDE", DampLikeness.OUTSIDE, -1000000002);
        check.due("NOT", DampLikeness.NOT, -1000000003);
        check.due("FULL", DampLikeness.FULL, -1000000004);
        int seen = 0;
        for (Field field : DampLikeness.class.getDeclaredFields()) {
            if (!Modifier.isPrivate(field.getModifiers())) {
                seen++;
                check.due(field.getName() + " is a constant",
                        field.getModifiers(), Modifier.PUBLIC | Modifier.STATIC | Modifier.FINAL);
            }
        }
        check.due("constants to be seen", seen, 5);
    }

    private static void methods(Check check) {
        TreeSet<String> want = new TreeSet<>();
        TreeSet<String> publicNames = new TreeSet<>();
        for (String method : METHODS) {
            want.add(method);
            publicNames.add(method.substring(4, method.indexOf('(')));
        }
        TreeSet<String> got = new TreeSet<>();
        for (Method method : DampLikeness.class.getDeclaredMethods()) {
            if (Modifier.isPrivate(method.getModifiers())) {
                check.due("private " + method.getName() + " bears a public name",
                        publicNames.contains(method.getName()) ? 1 : 0, 0);
            } else {
                check.due(method.getName() + " is public", method.getModifiers(), Modifier.PUBLIC);
                got.add(signature(method));
            }
        }
        check.dueText("the methods", got.toString(), want.toString());
    }

    private static String signature(Method method) {
        StringBuilder text = new StringBuilder(method.getReturnType().getName() + " " + method.getName() + "(");
        String between = "";
        for (Class<?> type : method.getParameterTypes()) {
            text.append(between).append(type.getName());
            between = ",";
        }
        return text.append(')').toString();
    }

    private static void constructors(Check check) {
        Constructor<?>[] all = DampLikeness.class.getDeclaredConstructors();
        check.due("constructors", all.length, 1);
        check.due("its parameters", all[0].getParameterCount(), 0);
        check.due("it is public", all[0].getModifiers(), Modifier.PUBLIC);
    }
}
