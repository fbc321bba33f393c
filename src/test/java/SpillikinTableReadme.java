import java.io.IOException;
import java.net.URL;
import java.net.URLClassLoader;
import java.nio.file.Files;
import java.nio.file.Path;
import java.util.ArrayList;
import java.util.List;
import java.util.regex.Matcher;
import java.util.regex.Pattern;
import javax.tools.ToolProvider;

/** Compiles and runs README.md's example: each call whose remark starts with an answer must answer so. */
public final class SpillikinTableReadme {
    private static final Pattern TOLD =
            Pattern.compile("(?:int (\\w+) = )?(t\\.\\w+\\(.*\\));\\s+// (true|false|-?\\d+): .*");
    private static final int LEAST_TOLD = 20;
    private static int wrong = 0;

    public static void due(String call, String got, String want) {
        if (!got.equals(want)) {
            wrong++;
            System.out.println("README.md: " + call + " answered " + got + ", told is " + want);
        }
    }

    private static List<String> example() throws IOException {
        List<String> lines = new ArrayList<>();
        boolean inside = false;
        for (String line : Files.readAllLines(Path.of("README.md"))) {
            if (line.startsWith("```")) {
                inside = line.equals("```java");
            } else if (inside) {
                lines.add(line);
            }
        }
        return lines;
    }

    /** A class whose run() makes the calls of the example and hands each told answer to due(). */
    private static String program(List<String> lines) {
        StringBuilder text = new StringBuilder("public final class Example { public static void run() {\n");
        int told = 0;
        for (String line : lines) {
            Matcher matcher = TOLD.matcher(line);
            if (!matcher.matches()) {
                text.append(line).append('\n');
                continue;
            }
            told++;
            String answer = matcher.group(2);
            if (matcher.group(1) != null) {
                text.append("int ").append(matcher.group(1)).append(" = ").append(answer).append(";\n");
                answer = matcher.group(1);
            }
            text.append("SpillikinTableReadme.due(\"").append(matcher.group(2)).append("\", String.valueOf(")
                    .append(answer).append("), \"").append(matcher.group(3)).append("\");\n");
        }
        if (told < LEAST_TOLD) {
            due("the example's answers", "fewer than " + LEAST_TOLD, Integer.toString(told));
        }
        return text.append("} }\n").toString();
    }

    private static void runExample(Path place) throws ReflectiveOperationException, IOException {
        Path source = place.resolve("Example.java");
        Files.writeString(source, program(example()));
        int failed = ToolProvider.getSystemJavaCompiler().run(null, null, null, "-d", place.toString(), "-cp",
                System.getProperty("java.class.path"), source.toString());
        if (failed != 0) {
            due("the example compiles", "no", "yes");
            return;
        }
        try (URLClassLoader loader = new URLClassLoader(new URL[] {place.toUri().toURL()})) {
            loader.loadClass("Example").getMethod("run").invoke(null);
        }
    }

    private static void empty(Path place) throws IOException {
        Files.deleteIfExists(place.resolve("Example.java"));
        Files.deleteIfExists(place.resolve("Example.class"));
        Files.deleteIfExists(place);
    }

    public static void main(String[] args) throws ReflectiveOperationException, IOException {
        Path place = Files.createTempDirectory("readme");
        try {
            runExample(place);
        } finally {
            empty(place);
        }
        System.out.println(wrong == 0 ? "all answers are as due" : wrong + " answers are not as due");
        if (wrong != 0) {
            System.exit(1);
        }
    }
}
