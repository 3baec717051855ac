import java.io.IOException;
import java.nio.file.DirectoryStream;
import java.nio.file.Files;
import java.nio.file.Path;
import java.util.Set;
import java.util.TreeSet;

/**
 * Each sentence of the document's Terms, and each line of a promise on an argument, an answer or an exception,
 * has answers of its own: the tests quote it with says(), and Check sees that something is asked behind that.
 */
public final class QuotesTest {
    private static final Path DOCUMENT = Path.of("../shared/DOC.md");
    private static final Path TESTS = Path.of("src/test/java");
    private static final String CALL = "check.says(";
    private static final Check check = new Check("QuotesTest");

    public static void main(String[] args) throws IOException {
        if (!Files.exists(DOCUMENT)) {
            System.out.println("QuotesTest: there is no " + DOCUMENT + " to look the quotes up in");
            return;
        }
        Set<String> written = writtenInDocument();
        Set<String> quoted = quotes();
        check.due("sentences and lines of the document", true, written.size() > 150);
        for (String sentence : written) {
            check.due("a test of: " + sentence, true, quoted.contains(sentence));
        }
        for (String sentence : quoted) {
            check.due("in the document: " + sentence, true, written.contains(sentence));
        }
        check.finish();
    }

    private static Set<String> writtenInDocument() throws IOException {
        Set<String> written = new TreeSet<>();
        int promise = 0;
        String part = "";
        for (String line : Files.readAllLines(DOCUMENT)) {
            if (line.startsWith("## ")) {
                part = line.substring(3);
                promise = part.startsWith("Promise ") ? Integer.parseInt(part.substring(8, part.indexOf(':'))) : 0;
            } else if (promise > 0) {
                ofPromise(written, promise, line);
            } else if (part.equals("Terms") && !line.startsWith("The constants") && !line.startsWith("Ahead of")
                    && !line.startsWith("`") && !line.startsWith("#")) {
                sentences(written, line);
            } else if (part.equals("What it is") && line.startsWith("An object is used")) {
                sentences(written, line);
            }
        }
        return written;
    }

    private static void ofPromise(Set<String> written, int promise, String line) {
        if (line.startsWith("- `")) {
            written.add(promise + ", " + line.substring(2));
        } else if (line.startsWith("Returns ") || line.startsWith("Throws ")) {
            written.add(promise + ", " + line);
        } else if (line.startsWith("`Stuccohand()`: ")) {
            written.add(promise + ", " + line.substring(line.indexOf(' ') + 1));
        }
    }

    /** A sentence ends with a full stop and a blank; a heading has no full stop. */
    private static void sentences(Set<String> written, String line) {
        for (String sentence : line.split("(?<=\\.) ")) {
            if (sentence.endsWith(".")) {
                written.add(sentence);
            }
        }
    }

    private static Set<String> quotes() throws IOException {
        Set<String> quoted = new TreeSet<>();
        try (DirectoryStream<Path> files = Files.newDirectoryStream(TESTS, "*Test.java")) {
            for (Path file : files) {
                String code = file.endsWith("QuotesTest.java") ? "" : Files.readString(file);
                for (int at = code.indexOf(CALL); at >= 0; at = code.indexOf(CALL, at + 1)) {
                    String argument = code.substring(at + CALL.length(), code.indexOf(";\n", at) - 1);
                    quoted.add(quote(code, argument));
                }
            }
        }
        quoted.remove("");
        return quoted;
    }

    /** A number or none, then a constant or texts with plus signs between them. */
    private static String quote(String code, String argument) {
        String number = "";
        String words = argument;
        if (Character.isDigit(argument.charAt(0))) {
            number = argument.substring(0, argument.indexOf(' ') + 1);
            words = argument.substring(number.length());
        }
        if (Character.isUpperCase(words.charAt(0))) {
            int from = code.indexOf("String " + words + " = ");
            words = from < 0 ? "" : code.substring(from + words.length() + 10, code.indexOf(";\n", from));
        }
        return words.startsWith("\"") ? number + joined(words) : "";
    }

    private static String joined(String texts) {
        StringBuilder all = new StringBuilder();
        boolean inside = false;
        for (int i = 0; i < texts.length(); i++) {
            char sign = texts.charAt(i);
            if (sign == '"') {
                inside = !inside;
            } else if (inside) {
                all.append(sign == '\\' ? texts.charAt(++i) : sign);
            }
        }
        return all.toString();
    }
}
