import java.io.File;
import java.io.IOException;
import java.net.URL;
import java.net.URLClassLoader;
import java.nio.file.Files;
import java.nio.file.Path;
import java.util.ArrayList;
import java.util.List;
import javax.tools.JavaCompiler;
import javax.tools.ToolProvider;

/** The lines of README.md are one program; each answers, or throws, what stands behind it. */
public final class ReadmeTest {
    private static final Path README = Path.of("README.md");
    private static final Path BUILD = Path.of("build/readme");
    private static final String ANSWERS = "// -> ";
    private static final String THROWS = "// throws ";

    /** A line of README.md as one of the program: its answer is held against what is due. */
    private static String checked(String line) {
        int answers = line.indexOf(ANSWERS);
        int thrown = line.indexOf(THROWS);
        if (answers < 0 && thrown < 0) {
            return line;
        }
        String call = line.substring(0, answers < 0 ? thrown : answers).strip().replaceFirst(";$", "");
        String what = "\"" + call.replace("\"", "\\\"") + "\", ";
        if (thrown >= 0) {
            String type = line.substring(thrown + THROWS.length()).strip();
            boolean isVoid = call.contains(".set(");
            return (isVoid ? "CHECKS.thrownBy(" : "CHECKS.thrown(") + what + type + ".class, () -> " + call + ");";
        }
        String want = line.substring(answers + ANSWERS.length()).strip();
        String due = want.startsWith("\"") ? want : want.split(",")[0];
        return "CHECKS.due(" + what + "\"\" + (" + call + "), \"\" + " + due + ");";
    }

    private static String program(List<String> lines) {
        StringBuilder program = new StringBuilder();
        program.append("public final class ReadmeLines {\n");
        program.append("private static final Checks CHECKS = new Checks();\n");
        program.append("public static void main(String[] args) {\n").append("CHECKS.promise(\"README.md\");\n");
        boolean isCode = false;
        for (String line : lines) {
            if (line.startsWith("```")) {
                isCode = line.equals("```java");
            } else if (isCode) {
                program.append(checked(line)).append('\n');
            }
        }
        return program.append("CHECKS.end();\n}\n}\n").toString();
    }

    /** Where classes stand: the lines are loaded by one loader with all that they use. */
    private static URL[] places() throws IOException {
        List<URL> places = new ArrayList<>();
        places.add(BUILD.toUri().toURL());
        for (String place : System.getProperty("java.class.path").split(File.pathSeparator)) {
            places.add(Path.of(place).toUri().toURL());
        }
        return places.toArray(new URL[0]);
    }

    public static void main(String[] args) throws IOException, ReflectiveOperationException {
        JavaCompiler compiler = ToolProvider.getSystemJavaCompiler();
        if (compiler == null) {
            System.out.println("README.md: no compiler in this Java, its lines are not run\n0 passed, 0 failed");
            return;
        }
        Files.createDirectories(BUILD);
        Path file = BUILD.resolve("ReadmeLines.java");
        Files.writeString(file, program(Files.readAllLines(README)));
        int code = compiler.run(null, null, null, "-cp", System.getProperty("java.class.path"), "-d", BUILD.toString(),
            file.toString());
        if (code != 0) {
            System.out.println("README.md: its lines do not compile\n0 passed, 1 failed");
            System.exit(1);
        }
        try (URLClassLoader loader = new URLClassLoader(places(), ClassLoader.getPlatformClassLoader())) {
            loader.loadClass("ReadmeLines").getMethod("main", String[].class).invoke(null, (Object) args);
        }
    }
}
