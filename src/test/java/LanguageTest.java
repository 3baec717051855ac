import java.io.IOException;
import java.nio.file.Files;
import java.nio.file.Path;
import java.util.ArrayList;
import java.util.List;
import java.util.regex.Matcher;
import java.util.regex.Pattern;

/** Those of the rules of ../shared/LANGUAGE.md that can be seen in the program's text without reading it as Java. */
public final class LanguageTest {
    private static final Path PROGRAM = Path.of("src/main/java/Stuccohand.java");
    private static final String[] RULED_OUT = {"catch", "finally", "synchronized", "assert", "->", "::", "Exact\\(",
        "System\\.(?!arraycopy)", "Thread", "Random", "record ", "package ", "ordinal\\(", "\\.name\\(", "hashCode",
        "toString\\(\\) \\{", "static (final )?(float|double) [A-Za-z_]+( =|;)", "String\\.", "for \\([A-Za-z]+ [a-z]+ : "};
    private static final List<String> LIBRARY = List.of("length", "charAt", "isEmpty", "equals", "indexOf", "substring",
        "toCharArray", "append", "setCharAt", "setLength", "deleteCharAt", "reverse", "toString", "add", "get", "set",
        "remove", "size", "clear", "of", "compare", "max", "min", "abs", "bitCount", "floorDiv", "floorMod", "arraycopy",
        "copyOf", "copyOfRange", "fill", "clone", "values");
    private static final int LONGEST_METHOD = 60;
    private static final int MOST_PARAMETERS = 7;
    private static final int MOST_CLASSES = 12;
    private static final Check check = new Check("LanguageTest");

    public static void main(String[] args) throws IOException {
        String whole = Files.readString(PROGRAM);
        for (int i = 0; i < whole.length(); i++) {
            char sign = whole.charAt(i);
            check.due("sign " + (int) sign + " at " + i, true, sign == '\n' || sign >= 32 && sign < 127);
        }
        String code = whole.replaceAll("(?s)/\\*.*?\\*/", "").replaceAll("//[^\n]*", "").replaceAll("\"[^\"\n]*\"", "\"\"");
        for (String pattern : RULED_OUT) {
            Matcher found = Pattern.compile(pattern).matcher(code);
            check.due(pattern, "nothing", found.find() ? found.group() : "nothing");
        }
        imports(code);
        classes(code);
        methods(code.split("\n"));
        calls(code);
        check.finish();
    }

    private static void imports(String code) {
        Matcher found = Pattern.compile("import ([^;]*);").matcher(code);
        while (found.find()) {
            check.due("import " + found.group(1), true, List.of("java.util.ArrayList", "java.util.List").contains(found.group(1)));
        }
    }

    private static void classes(String code) {
        Matcher found = Pattern.compile("\\b(class|enum|interface) [A-Z]").matcher(code);
        int count = 0;
        while (found.find()) {
            count++;
        }
        check.due("at most " + MOST_CLASSES + " classes, of " + count, true, count > 0 && count <= MOST_CLASSES);
    }

    /** A method begins with a line that ends in "{" behind a ")", and ends at a "}" as far in. */
    private static void methods(String[] lines) {
        Pattern head = Pattern.compile("^( {4}| {8})(?! )[A-Za-z].*");
        for (int i = 0; i < lines.length; i++) {
            if (head.matcher(lines[i]).matches() && lines[i].contains("(") && !lines[i].endsWith(";")) {
                String indent = lines[i].substring(0, lines[i].length() - lines[i].stripLeading().length());
                int end = i;
                while (end < lines.length - 1 && !lines[end].equals(indent + "}")) {
                    end++;
                }
                check.due("line " + (i + 1) + ": a method of " + (end - i + 1) + " lines", true, end - i < LONGEST_METHOD);
            }
        }
    }

    /** What is called on something is the library's, of what the rules list, or a method of the program. */
    private static void calls(String code) {
        List<String> own = new ArrayList<>();
        Matcher declared = Pattern.compile("\n {4,8}(?:private |public |static |final )*[\\w<>\\[\\]]+ (\\w+)\\(([^)]*)\\)[^;]*?\\{")
                .matcher(code);
        while (declared.find()) {
            own.add(declared.group(1));
            int parameters = declared.group(2).isEmpty() ? 0 : declared.group(2).split(",").length;
            check.due("parameters of " + declared.group(1), true, parameters <= MOST_PARAMETERS);
        }
        check.due("methods found", true, own.size() > 60);
        Matcher called = Pattern.compile("\\.(\\w+)\\(").matcher(code);
        while (called.find()) {
            String name = called.group(1);
            check.due("the call of " + name, true, LIBRARY.contains(name) || own.contains(name));
        }
    }
}
