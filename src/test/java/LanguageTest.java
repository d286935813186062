import java.io.IOException;
import java.lang.reflect.Constructor;
import java.lang.reflect.Executable;
import java.lang.reflect.Field;
import java.lang.reflect.Method;
import java.lang.reflect.Modifier;
import java.nio.file.Files;
import java.nio.file.Path;
import java.util.ArrayList;
import java.util.List;
import java.util.Set;
import java.util.regex.Matcher;
import java.util.regex.Pattern;

/** What can be seen of the rules of LANGUAGE.md in the class and its text; the numbers are those of the rules. */
public final class LanguageTest {
    private static final Path SOURCE = Path.of("src", "main", "java", "GrammarStream.java");
    private static final int MOST_CLASSES = 12;
    private static final int MOST_FIELDS = 20;
    private static final int MOST_PARAMETERS = 7;
    private static final int LONGEST_METHOD = 60;
    /** Words and signs of what the rules 2, 6 and 13 leave out, and of library names that rule 4 does not list. */
    private static final List<String> LEFT_OUT = List.of("\\bthrow\\b", "\\bthrows\\b", "\\btry\\b", "\\bcatch\\b",
            "\\bfinally\\b", "\\bsynchronized\\b", "\\bassert\\b", "->", "::", "\\bprotected\\b", "\\bpackage\\b",
            "\\bstatic\\s*\\{", "\\bhashCode\\b", "\\btoString\\b", "\\bObject\\b", "\\bThread\\b", "\\bvar\\b",
            "\\w*Exact\\b", "\\bSystem\\.(?!arraycopy\\b)", "\\bArrays\\.(?!copyOf\\b|copyOfRange\\b|fill\\b)",
            "\\bvolatile\\b", "\\btransient\\b", "\\bnative\\b", "\\bjava\\.(?!util\\.Arrays;)");
    private static final Set<Class<?>> ARRAYS_OF_CONSTANTS =
            Set.of(int[].class, long[].class, char[].class, byte[].class);
    private static final Set<Class<?>> CONSTANTS =
            Set.of(int.class, long.class, boolean.class, char.class, String.class);

    public static void main(String[] args) throws IOException {
        String source = withoutWords(Files.readString(SOURCE));
        for (String sign : LEFT_OUT) {
            Matcher found = Pattern.compile(sign).matcher(source);
            Desk.due("the class has no " + sign, found.find(), false);
        }
        methodsAreShort(source);
        List<Class<?>> all = new ArrayList<>();
        gather(GrammarStream.class, all);
        Desk.due("11: at most some twelve classes", all.size() <= MOST_CLASSES, true);
        for (Class<?> each : all) {
            shape(each);
            fields(each);
            parameters(each);
        }
        Desk.end();
    }

    /** Comments, texts and characters may say anything. */
    private static String withoutWords(String source) {
        String kinds = "(?s)/\\*.*?\\*/|//[^\\n]*|\"(?:\\\\.|[^\"\\\\])*\"|'(?:\\\\.|[^'\\\\])+'";
        return Pattern.compile(kinds).matcher(source).replaceAll(kept -> kept.group().replaceAll("[^\\n]", " "));
    }

    /** Methods stand at two depths, and end with a } at their own; loops and ifs at these are looked at, too. */
    private static void methodsAreShort(String source) {
        String[] rows = source.split("\n");
        for (int k = 0; k < rows.length; k++) {
            if (rows[k].matches(" {4}(?: {4})?[A-Za-z].*\\).*\\{\\s*")) {
                String end = rows[k].replaceAll("\\S.*", "") + "}";
                int last = k;
                while (last < rows.length && !rows[last].stripTrailing().equals(end)) {
                    last++;
                }
                Desk.due("11: rows of " + rows[k].strip(), last - k + 1 <= LONGEST_METHOD, true);
            }
        }
    }

    private static void gather(Class<?> from, List<Class<?>> to) {
        to.add(from);
        for (Class<?> inside : from.getDeclaredClasses()) {
            gather(inside, to);
        }
    }

    private static void shape(Class<?> each) {
        if (each != GrammarStream.class) {
            int kind = each.getModifiers();
            Desk.due("2: " + each.getName() + " is static", Modifier.isStatic(kind), true);
            Desk.due("1: " + each.getName() + " is not for all",
                    Modifier.isPublic(kind) || Modifier.isProtected(kind), false);
        }
    }

    private static void fields(Class<?> each) {
        int held = 0;
        for (Field field : each.getDeclaredFields()) {
            if (field.isSynthetic()) {
                continue;
            }
            String name = each.getName() + "." + field.getName();
            if (Modifier.isStatic(field.getModifiers())) {
                boolean constant = CONSTANTS.contains(field.getType()) || ARRAYS_OF_CONSTANTS.contains(field.getType());
                Desk.due("5: " + name + " is a constant", constant && Modifier.isFinal(field.getModifiers()), true);
            } else {
                held++;
            }
        }
        Desk.due("11: fields of " + each.getName(), held <= MOST_FIELDS, true);
    }

    private static void parameters(Class<?> each) {
        List<Executable> calls = new ArrayList<>();
        for (Method method : each.getDeclaredMethods()) {
            calls.add(method);
        }
        for (Constructor<?> constructor : each.getDeclaredConstructors()) {
            calls.add(constructor);
        }
        for (Executable call : calls) {
            Desk.due("11: parameters of " + call, call.getParameterCount() <= MOST_PARAMETERS, true);
        }
    }
}
