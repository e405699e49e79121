import java.io.IOException;
import java.lang.reflect.Method;
import java.lang.reflect.Modifier;
import java.net.URL;
import java.net.URLClassLoader;
import java.nio.file.Files;
import java.nio.file.Path;
import java.util.ArrayList;
import java.util.List;
import java.util.regex.Matcher;
import java.util.regex.Pattern;
import javax.tools.JavaCompiler;
import javax.tools.ToolProvider;

/** README.md tells the truth: its example is compiled and run, and each call of the class is named. */
public final class ReadmeTest {
    private static final Pattern EXAMPLE = Pattern.compile("(?s)```java\n(.*?)```");
    private static final Pattern ANSWER = Pattern.compile("(?:int|long|double) (\\w+) = .*; +// answers (-?[0-9.]*[0-9]).*");

    public static void main(String[] args) throws Exception {
        Path readme = args.length > 0 ? Path.of(args[0]).resolve("../../../../README.md").normalize()
                : Path.of("README.md");
        String text = Files.readString(readme);
        callsAreNamed(text);
        exampleAnswersWhatItSays(text);
        Checks.end();
    }

    private static void callsAreNamed(String text) {
        for (Method method : AirStation.class.getDeclaredMethods()) {
            if (Modifier.isPublic(method.getModifiers())) {
                boolean isNamed = text.contains("`" + method.getName() + "`");
                Checks.due("README names " + method.getName(), isNamed ? 1 : 0, 1);
            }
        }
    }

    private static void exampleAnswersWhatItSays(String text) throws Exception {
        Matcher example = EXAMPLE.matcher(text);
        Checks.due("there is an example", example.find() ? 1 : 0, 1);
        StringBuilder body = new StringBuilder();
        List<String> told = new ArrayList<>();
        List<String> due = new ArrayList<>();
        for (String line : example.group(1).split("\n")) {
            body.append(line).append('\n');
            Matcher answer = ANSWER.matcher(line);
            if (answer.matches()) {
                body.append("answers.add(String.valueOf(").append(answer.group(1)).append("));\n");
                told.add(line);
                due.add(answer.group(2));
            }
        }
        Checks.due("some of its lines tell their answers", due.size() >= 10 ? 1 : 0, 1);
        JavaCompiler compiler = ToolProvider.getSystemJavaCompiler();
        if (compiler == null) {
            System.out.println("the machine that runs this test has no compiler of its own");
            return;
        }
        List<?> answers = answersOf(compiler, body.toString());
        Checks.due("so many answers", answers.size(), due.size());
        for (int index = 0; index < due.size(); index++) {
            Checks.dueText("README: " + told.get(index), String.valueOf(answers.get(index)), due.get(index));
        }
    }

    private static List<?> answersOf(JavaCompiler compiler, String body) throws Exception {
        Path directory = Files.createTempDirectory("readme");
        Path source = directory.resolve("ReadmeExample.java");
        Files.writeString(source, "public final class ReadmeExample { public static java.util.List<String> answers() {\n"
                + "java.util.List<String> answers = new java.util.ArrayList<>();\n" + body + "return answers;\n}\n}\n");
        try {
            int failed = compiler.run(null, null, null, "-d", directory.toString(), "-cp",
                    System.getProperty("java.class.path"), source.toString());
            Checks.due("the example compiles", failed, 0);
            try (URLClassLoader loader = new URLClassLoader(new URL[] {directory.toUri().toURL()})) {
                return (List<?>) loader.loadClass("ReadmeExample").getMethod("answers").invoke(null);
            }
        } finally {
            removeAll(directory);
        }
    }

    private static void removeAll(Path directory) throws IOException {
        try (var files = Files.list(directory)) {
            for (Path file : (Iterable<Path>) files::iterator) {
                Files.delete(file);
            }
        }
        Files.delete(directory);
    }
}
