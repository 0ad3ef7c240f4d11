import java.io.File;
import java.net.URL;
import java.net.URLClassLoader;
import java.nio.file.Files;
import java.nio.file.Path;
import java.util.ArrayList;
import java.util.List;
import java.util.regex.Matcher;
import java.util.regex.Pattern;
import java.util.stream.Stream;
import javax.tools.ToolProvider;

/** The lines that README.md shows are made a class, compiled and run: each answer is the one that stands there. */
public final class ReadmeTest {
    private static final Pattern BLOCK = Pattern.compile("```java\n(.*?)```", Pattern.DOTALL);
    private static final Pattern ANSWERED = Pattern.compile("(x\\.\\w+\\(.*\\));\\s*// (-?\\d+)(:.*)?");
    private static final Pattern ANY_CALL = Pattern.compile("\\bx\\.(\\w+)\\(");
    private static final int FEWEST_ANSWERS = 20;

    private static List<String> shownLines() throws Exception {
        Matcher block = BLOCK.matcher(Files.readString(Path.of("README.md")));
        return block.find() ? List.of(block.group(1).split("\n")) : List.of();
    }

    /** The source of a class whose list() holds a text for every answer that is not as shown. */
    private static String source(List<String> lines) {
        StringBuilder out = new StringBuilder("public final class Shown {\n");
        out.append("public static java.util.List<String> list() {\n");
        out.append("java.util.List<String> wrong = new java.util.ArrayList<>(); long got;\n");
        for (String line : lines) {
            Matcher m = ANSWERED.matcher(line);
            if (m.matches()) {
                out.append("got = ").append(m.group(1)).append(";\n");
                out.append("if (got != ").append(m.group(2)).append("L) { wrong.add(\"").append(m.group(1));
                out.append(" answered \" + got + \", README.md has ").append(m.group(2)).append("\"); }\n");
            } else {
                out.append(line).append("\n");
            }
        }
        return out.append("return wrong;\n}\n}\n").toString();
    }

    private static List<?> run(String source, Path folder) throws Exception {
        Path file = folder.resolve("Shown.java");
        Files.writeString(file, source);
        int refused = ToolProvider.getSystemJavaCompiler().run(null, null, null, "-proc:none", "-d", folder.toString(),
            "-cp", System.getProperty("java.class.path"), file.toString());
        if (refused != 0) {
            return List.of("the lines of README.md do not compile");
        }
        try (URLClassLoader loader = new URLClassLoader(new URL[] {folder.toUri().toURL()})) {
            return (List<?>) loader.loadClass("Shown").getMethod("list").invoke(null);
        }
    }

    private static void delete(Path folder) throws Exception {
        try (Stream<Path> inside = Files.list(folder)) {
            inside.map(Path::toFile).forEach(File::delete);
        }
        Files.delete(folder);
    }

    public static void main(String[] args) throws Exception {
        List<String> lines = shownLines();
        List<String> wrong = new ArrayList<>();
        long answered = lines.stream().filter(line -> ANSWERED.matcher(line).matches()).count();
        if (answered < FEWEST_ANSWERS) {
            wrong.add("README.md shows " + answered + " answers alone");
        }
        for (String line : lines) {
            Matcher call = ANY_CALL.matcher(line);
            if (call.find() && !call.group(1).equals("form") && !ANSWERED.matcher(line).matches()) {
                wrong.add("no answer stands behind " + line);
            }
        }
        Path folder = Files.createTempDirectory("shown");
        for (Object text : run(source(lines), folder)) {
            wrong.add(text.toString());
        }
        delete(folder);
        wrong.forEach(System.out::println);
        System.out.println(answered + " answers of README.md, " + wrong.size() + " not as due");
        if (!wrong.isEmpty()) {
            System.exit(1);
        }
    }
}
