import java.io.ByteArrayOutputStream;
import java.io.IOException;
import java.io.PrintStream;
import java.lang.reflect.Method;
import java.lang.reflect.Modifier;
import java.net.URL;
import java.net.URLClassLoader;
import java.nio.file.Files;
import java.nio.file.Path;
import java.util.ArrayList;
import java.util.List;
import java.util.stream.Stream;
import javax.tools.JavaCompiler;
import javax.tools.ToolProvider;

/** README.md: its example answers as it says, and its list of tests has all that there are. */
public final class ReadmeTest {
    private static final Path README = Path.of("README.md");
    private static final Path TESTS = Path.of("src", "test", "java");
    private static final String EXAMPLE = "Sums";
    private static final String SAID = "System.out.println(";

    public static void main(String[] args) throws IOException, ReflectiveOperationException {
        List<String> readme = Files.readAllLines(README);
        List<String> example = firstBlock(readme, "```java");
        usesWholeFace(example);
        List<String> told = answersTold(example);
        List<String> said = answersSaid(example);
        Desk.due("how many answers the example prints", said.size(), told.size());
        for (int k = 0; k < Math.min(told.size(), said.size()); k++) {
            String row = "row " + k + " of the example: README.md tells " + told.get(k) + ", it printed " + said.get(k);
            Desk.due(row, said.get(k).equals(told.get(k)), true);
        }
        namesAllTests(String.join("\n", readme));
        Desk.end();
    }

    private static List<String> firstBlock(List<String> rows, String mark) {
        List<String> block = new ArrayList<>();
        int begin = rows.indexOf(mark) + 1;
        for (int k = begin; begin > 0 && k < rows.size() && !rows.get(k).equals("```"); k++) {
            block.add(rows.get(k));
        }
        return block;
    }

    private static void usesWholeFace(List<String> example) {
        String all = String.join("\n", example);
        for (Method method : GrammarStream.class.getDeclaredMethods()) {
            if (Modifier.isPublic(method.getModifiers())) {
                String call = "desk." + method.getName() + "(";
                Desk.due("the example uses " + call, all.contains(call), true);
            }
        }
    }

    /** Behind each answer that is printed a comment tells it, up to a colon. */
    private static List<String> answersTold(List<String> example) {
        List<String> told = new ArrayList<>();
        for (String row : example) {
            if (row.contains(SAID)) {
                int comment = row.indexOf("// ");
                int colon = row.indexOf(':', comment + 1);
                boolean whole = comment >= 0 && colon >= 0;
                told.add(whole ? row.substring(comment + 3, colon) : "nothing in " + row);
            }
        }
        Desk.due("the example prints answers", told.isEmpty(), false);
        return told;
    }

    private static List<String> answersSaid(List<String> example) throws IOException, ReflectiveOperationException {
        Path room = Files.createTempDirectory("readme");
        try {
            Path source = room.resolve(EXAMPLE + ".java");
            Files.write(source, example);
            JavaCompiler compiler = ToolProvider.getSystemJavaCompiler();
            int answer = compiler == null ? 1 : compiler.run(null, null, null, "-Xlint:all", "-Werror",
                    "-cp", System.getProperty("java.class.path"), "-d", room.toString(), source.toString());
            Desk.due("javac of the example", answer, 0);
            return answer == 0 ? printed(room) : List.of();
        } finally {
            remove(room);
        }
    }

    private static List<String> printed(Path room) throws IOException, ReflectiveOperationException {
        PrintStream before = System.out;
        ByteArrayOutputStream caught = new ByteArrayOutputStream();
        try (URLClassLoader loader = new URLClassLoader(new URL[] {room.toUri().toURL()})) {
            Method main = loader.loadClass(EXAMPLE).getMethod("main", String[].class);
            System.setOut(new PrintStream(caught, true));
            main.invoke(null, (Object) new String[0]);
        } finally {
            System.setOut(before);
        }
        return caught.toString().lines().toList();
    }

    private static void remove(Path room) throws IOException {
        try (Stream<Path> files = Files.list(room)) {
            for (Path file : files.toList()) {
                Files.delete(file);
            }
        }
        Files.delete(room);
    }

    private static void namesAllTests(String readme) throws IOException {
        Desk.due("README.md tells of .ci/run", readme.contains(".ci/run"), true);
        try (Stream<Path> files = Files.list(TESTS)) {
            for (Path file : files.toList()) {
                String name = file.getFileName().toString().replace(".java", "");
                Desk.due("README.md tells of " + name, !name.endsWith("Test") || readme.contains("`" + name + "`"), true);
            }
        }
    }
}
