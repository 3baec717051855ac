import java.io.IOException;
import java.lang.reflect.Field;
import java.lang.reflect.Member;
import java.lang.reflect.Method;
import java.lang.reflect.Modifier;
import java.net.URL;
import java.net.URLClassLoader;
import java.nio.file.DirectoryStream;
import java.nio.file.Files;
import java.nio.file.Path;
import java.util.ArrayList;
import java.util.List;
import java.util.regex.Matcher;
import java.util.regex.Pattern;
import javax.tools.JavaCompiler;
import javax.tools.ToolProvider;

/** README.md holds: its example is compiled and answers as told, and it names every call, constant and test. */
public final class ReadmeTest {
    private static final Path README = Path.of("README.md");
    private static final Path TESTS = Path.of("src/test/java");
    private static final Path BUILT = Path.of("build/readme");
    /** A statement, and in its comment the answer, ahead of a colon or alone. */
    private static final Pattern ANSWERED = Pattern.compile(
            "^(?:int (\\w+) = )?(house\\..*);\\s*// (-?[0-9.]+|true|false|throws \\w+)(?::.*)?$");
    private static final Check check = new Check("ReadmeTest");

    public static void main(String[] args) throws Exception {
        String page = Files.readString(README);
        List<String> example = example(page);
        List<String[]> due = new ArrayList<>();
        Object[] got = answers(written(example, due));
        check.due("the answers that the example tells", true, due.size() > 20);
        check.due("the answers of the example", due.size(), got.length);
        for (int i = 0; i < due.size() && i < got.length; i++) {
            check.due(due.get(i)[0], due.get(i)[1], String.valueOf(got[i]));
        }
        names(page);
        check.finish();
    }

    private static List<String> example(String page) {
        List<String> lines = new ArrayList<>();
        boolean inside = false;
        for (String line : page.split("\n")) {
            if (line.startsWith("```")) {
                inside = line.equals("```java");
            } else if (inside && !line.isBlank()) {
                lines.add(line);
            }
        }
        return lines;
    }

    /** The example as a class; its answers come in the order of those that are due. */
    private static String written(List<String> example, List<String[]> due) {
        StringBuilder code = new StringBuilder("public final class ReadmeExample {\n");
        code.append("    public static Object[] answers() {\n        java.util.List<Object> all = new java.util.ArrayList<>();\n");
        for (String line : example) {
            Matcher found = ANSWERED.matcher(line);
            if (!found.matches()) {
                code.append(line).append('\n');
                continue;
            }
            due.add(new String[] {found.group(2), found.group(3).replace(' ', '.')});
            if (found.group(3).startsWith("throws")) {
                code.append("try {\nall.add(").append(found.group(2)).append(");\n} catch (RuntimeException thrown) {\n")
                        .append("all.add(\"throws.\" + thrown.getClass().getSimpleName());\n}\n");
            } else if (found.group(1) != null) {
                code.append(line).append("\nall.add(").append(found.group(1)).append(");\n");
            } else {
                code.append("all.add(").append(found.group(2)).append(");\n");
            }
        }
        return code.append("        return all.toArray();\n    }\n}\n").toString();
    }

    private static Object[] answers(String code) throws IOException, ReflectiveOperationException {
        Files.createDirectories(BUILT);
        Path file = BUILT.resolve("ReadmeExample.java");
        Files.writeString(file, code);
        JavaCompiler compiler = ToolProvider.getSystemJavaCompiler();
        int refused = compiler.run(null, null, null, "-cp", System.getProperty("java.class.path"),
                "-d", BUILT.toString(), file.toString());
        check.due("the example compiles", 0, refused);
        if (refused != 0) {
            return new Object[0];
        }
        try (URLClassLoader loader = new URLClassLoader(new URL[] {BUILT.toUri().toURL()}, ReadmeTest.class.getClassLoader())) {
            return (Object[]) loader.loadClass("ReadmeExample").getMethod("answers").invoke(null);
        }
    }

    private static void names(String page) throws IOException {
        for (Method method : Stuccohand.class.getDeclaredMethods()) {
            named(page, method);
        }
        for (Field field : Stuccohand.class.getDeclaredFields()) {
            named(page, field);
        }
        try (DirectoryStream<Path> files = Files.newDirectoryStream(TESTS, "*Test.java")) {
            for (Path file : files) {
                String name = file.getFileName().toString().replace(".java", "");
                check.due("named: " + name, true, page.contains("`" + name + "`"));
            }
        }
    }

    private static void named(String page, Member member) {
        if (Modifier.isPublic(member.getModifiers())) {
            check.due("named: " + member.getName(), true, page.contains("`" + member.getName() + "`"));
        }
    }
}
