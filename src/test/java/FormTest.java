import java.io.IOException;
import java.lang.reflect.Constructor;
import java.lang.reflect.Field;
import java.lang.reflect.Method;
import java.lang.reflect.Modifier;
import java.nio.file.Files;
import java.nio.file.Path;
import java.util.ArrayList;
import java.util.HashSet;
import java.util.List;
import java.util.Set;
import java.util.TreeSet;
import java.util.regex.Matcher;
import java.util.regex.Pattern;

/** The form of the program: its face as the document has it, and what LANGUAGE.md leaves of Java. */
public final class FormTest {
    private static final Checks CHECKS = new Checks();
    private static final Path SOURCE = Path.of("src/main/java/NoteDocument.java");
    private static final Path DOCUMENT = Path.of("../shared/DOC.md");

    /** What the compiled class shows, a line each, as the document writes it. */
    private static Set<String> face() {
        Set<String> lines = new TreeSet<>();
        for (Constructor<?> constructor : NoteDocument.class.getConstructors()) {
            lines.add("NoteDocument(" + types(constructor.getParameterTypes()) + ")");
        }
        for (Method method : NoteDocument.class.getDeclaredMethods()) {
            if (Modifier.isPublic(method.getModifiers())) {
                String thrown = types(method.getExceptionTypes());
                lines.add(method.getReturnType().getSimpleName() + " " + method.getName() + "("
                    + types(method.getParameterTypes()) + ")" + (thrown.isEmpty() ? "" : " throws " + thrown));
            }
        }
        return lines;
    }

    private static String types(Class<?>[] types) {
        List<String> names = new ArrayList<>();
        for (Class<?> type : types) {
            names.add(type.getSimpleName());
        }
        return String.join(", ", names);
    }

    /** The face that the document asks for, without the names of parameters. */
    private static Set<String> asked() throws IOException {
        Set<String> lines = new TreeSet<>();
        for (String line : Files.readAllLines(DOCUMENT)) {
            if (line.startsWith("    public ")) {
                String face = line.strip().substring("public ".length()).replace(";", "");
                lines.add(face.replaceAll("(int|long|boolean) \\w+(?=[,)])", "$1"));
            }
        }
        return lines;
    }

    private static void face(Class<?> type) throws IOException {
        CHECKS.promise("Rule 1");
        if (Files.exists(DOCUMENT)) {
            CHECKS.due("the face", face().toString(), asked().toString());
        }
        CHECKS.due("public and final", type.getModifiers(), Modifier.PUBLIC | Modifier.FINAL);
        Set<String> open = new HashSet<>();
        for (Method method : type.getDeclaredMethods()) {
            if (Modifier.isPublic(method.getModifiers())) {
                open.add(method.getName());
            }
        }
        for (Method method : type.getDeclaredMethods()) {
            boolean isPublic = Modifier.isPublic(method.getModifiers());
            CHECKS.due(method + " is public or private", isPublic || Modifier.isPrivate(method.getModifiers())
                || method.isSynthetic());
            CHECKS.due(method + " has a name of its own", isPublic || !open.contains(method.getName()));
        }
        for (Field field : type.getDeclaredFields()) {
            CHECKS.due(field + " is private", Modifier.isPrivate(field.getModifiers()));
        }
        for (Class<?> inner : type.getDeclaredClasses()) {
            CHECKS.due(inner + " is static", Modifier.isStatic(inner.getModifiers()));
            CHECKS.due(inner + " is not open", !Modifier.isPublic(inner.getModifiers())
                && !Modifier.isProtected(inner.getModifiers()));
        }
    }

    private static void sizes(Class<?> type) {
        CHECKS.promise("Rules 5 and 11");
        List<Class<?>> all = new ArrayList<>(List.of(type.getDeclaredClasses()));
        all.add(type);
        CHECKS.due("at most twelve classes", all.size() <= 12);
        for (Class<?> one : all) {
            int fields = 0;
            for (Field field : one.getDeclaredFields()) {
                if (Modifier.isStatic(field.getModifiers())) {
                    CHECKS.due(field + " is final", Modifier.isFinal(field.getModifiers()));
                    CHECKS.due(field + " is a constant", field.getType().isPrimitive());
                } else {
                    fields++;
                }
            }
            CHECKS.due(one + " has at most twenty fields", fields <= 20);
            for (Method method : one.getDeclaredMethods()) {
                CHECKS.due(method + " takes at most seven parameters", method.getParameterCount() <= 7);
            }
        }
    }

    /** The source without comments and texts. */
    private static String bare(String source) {
        return source.replaceAll("(?s)/\\*.*?\\*/", "").replaceAll("//[^\n]*", "")
            .replaceAll("\"[^\"\n]*\"", "\"\"").replaceAll("'.'", "' '");
    }

    private static void words(String bare) {
        CHECKS.promise("Rules 3, 4, 6, 12 and 13");
        String[] none = {"->", "::", "synchronized", "assert", "finally", "try", "catch", "double", "Object", "static {",
            "instanceof", "System.out", "System.nano", "System.current", "Random", "Thread", "getMessage", "hashCode",
            "Exact", "Math.sqrt", "Math.pow", "Math.floor(", "Math.round", "package ", "volatile", "transient", "native",
            "this;", "this)", "this,", "goto", "var "};
        for (String word : none) {
            CHECKS.due("nowhere: " + word, !Pattern.compile((Character.isLetter(word.charAt(0)) ? "\\b" : "")
                + Pattern.quote(word) + (Character.isLetter(word.charAt(word.length() - 1)) ? "\\b" : ""))
                .matcher(bare).find());
        }
        List<String> imports = found(bare, "import ([\\w.]+);");
        CHECKS.due("what is imported", imports.toString(), "[java.util.Arrays]");
        Set<String> thrown = new TreeSet<>(found(bare, "throw ([^;]*);"));
        CHECKS.due("what is thrown", thrown.toString(), "[new IllegalArgumentException(\"\"), "
            + "new IllegalStateException(\"\"), new IndexOutOfBoundsException(\"\")]");
        Set<String> library = new TreeSet<>(found(bare, "\\b((?:Math|Arrays|System|String|Integer|Long)\\.\\w+)"));
        CHECKS.due("of the library", Set.of("Math.abs", "Math.floorDiv", "Math.floorMod", "Math.max", "Math.min",
            "Arrays.copyOf", "Arrays.fill", "System.arraycopy").containsAll(library));
    }

    private static List<String> found(String text, String pattern) {
        List<String> found = new ArrayList<>();
        Matcher matcher = Pattern.compile(pattern).matcher(text);
        while (matcher.find()) {
            found.add(matcher.group(1));
        }
        return found;
    }

    /** Methods are short, and signs are plain. */
    private static void lines(String source) {
        CHECKS.promise("Rules 4 and 11");
        boolean isPlain = true;
        for (char sign : source.toCharArray()) {
            isPlain = isPlain && sign >= 1 && sign <= 127;
        }
        CHECKS.due("signs 1 to 127", isPlain);
        String[] lines = source.split("\n");
        int begun = -1;
        String end = "";
        for (int i = 0; i < lines.length; i++) {
            String line = lines[i];
            boolean isMethod = line.matches(" {4}( {4})?[\\w].*\\) ?(\\{|throws .*|)")
                && !line.matches(".*\\b(class|return|new|else|if|for|while)\\b.*");
            if (isMethod && begun < 0) {
                begun = i;
                end = line.substring(0, line.length() - line.stripLeading().length()) + "}";
            } else if (begun >= 0 && line.equals(end)) {
                CHECKS.due(lines[begun].strip() + " is short", i - begun <= 60);
                begun = -1;
            }
        }
    }

    public static void main(String[] args) throws IOException {
        String source = Files.readString(SOURCE);
        face(NoteDocument.class);
        sizes(NoteDocument.class);
        words(bare(source));
        lines(source);
        CHECKS.end();
    }
}
