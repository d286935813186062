import java.lang.reflect.Constructor;
import java.lang.reflect.Field;
import java.lang.reflect.Method;
import java.lang.reflect.Modifier;
import java.util.Set;
import java.util.TreeSet;

/** The public face, and nothing beside it. */
public final class FaceTest {
    private static final Set<String> METHODS = Set.of(
            "int type(long,int)", "int build()", "int fault(int)", "int conflict(int)",
            "boolean first(int,int)", "boolean follow(int,int)", "boolean empty(int)", "int cell(int,int)",
            "int many(int)", "int rule(int,int)", "int token(int,int)", "long count(int)",
            "int feed(long,int)", "int finish()", "int reset()", "int stream(int)", "int found(int,int)",
            "int noted(int,int)", "boolean expected(int)");

    public static void main(String[] args) {
        Desk.due("public and final", GrammarStream.class.getModifiers() == (Modifier.PUBLIC | Modifier.FINAL), true);
        methods();
        constants();
        Constructor<?>[] constructors = GrammarStream.class.getDeclaredConstructors();
        Desk.due("constructors", constructors.length, 1);
        Desk.due("a public one", Modifier.isPublic(constructors[0].getModifiers()), true);
        Desk.due("without parameters", constructors[0].getParameterCount(), 0);
        Desk.end();
    }

    private static void methods() {
        Set<String> seen = new TreeSet<>();
        Set<String> names = new TreeSet<>();
        for (Method method : GrammarStream.class.getDeclaredMethods()) {
            if (!Modifier.isPrivate(method.getModifiers())) {
                seen.add(told(method));
                names.add(method.getName());
            }
        }
        Desk.due("methods " + seen, seen.equals(METHODS), true);
        for (Method method : GrammarStream.class.getDeclaredMethods()) {
            boolean hidden = Modifier.isPrivate(method.getModifiers());
            Desk.due("private " + method.getName(), hidden && names.contains(method.getName()), false);
        }
    }

    private static String told(Method method) {
        StringBuilder text = new StringBuilder();
        text.append(method.getReturnType().getName()).append(' ').append(method.getName()).append('(');
        for (Class<?> parameter : method.getParameterTypes()) {
            text.append(parameter.getName()).append(',');
        }
        if (text.charAt(text.length() - 1) == ',') {
            text.setLength(text.length() - 1);
        }
        return text.append(')').toString();
    }

    private static void constants() {
        Desk.due("BAD", GrammarStream.BAD, -1);
        Desk.due("FULL", GrammarStream.FULL, -2);
        Desk.due("CONFLICT", GrammarStream.CONFLICT, -3);
        for (Field field : GrammarStream.class.getDeclaredFields()) {
            boolean told = Set.of("BAD", "FULL", "CONFLICT").contains(field.getName());
            Desk.due("private field " + field.getName(), Modifier.isPrivate(field.getModifiers()), !told);
        }
    }
}
