import java.io.IOException;
import java.nio.file.Files;
import java.nio.file.Path;

/**
 * Those rules of LANGUAGE.md that a look at the text shows: no words of Java that it leaves out.
 * It reads the source from the project's folder, where .ci/run starts it.
 */
public final class LanguageTest {
    private static final String[] LEFT_OUT = {"import ", "package ", "synchronized", "assert ",
        "finally", "catch", "->", "::", "static {", "Exact(", "toString", "hashCode", "equals(",
        "getMessage", "volatile", "native", "Random", "System.", "Thread", "double", "float ",
        " + \"", "\" + ", "var "};

    public static void main(String[] args) throws IOException {
        String text = Files.readString(Path.of("src/main/java/Festoon.java"));
        String code = withoutComments(text);
        for (String word : LEFT_OUT) {
            Due.holds("no '" + word + "' in the class", !code.contains(word));
        }
        for (int i = 0; i < text.length(); i++) {
            if (text.charAt(i) > 126) {
                Due.holds("plain signs alone, at " + i, false);
            }
        }
        shortMethods(code);
        Due.end();
    }

    private static String withoutComments(String text) {
        return text.replaceAll("(?s)/\\*.*?\\*/", "").replaceAll("//[^\n]*", "")
                .replaceAll("\"[^\"\n]*\"", "\"\"");
    }

    /** Rule 11: some sixty lines a method; a method ends at a brace at the depth it began at. */
    private static void shortMethods(String code) {
        int length = 0;
        for (String line : code.split("\n")) {
            boolean ends = line.equals("    }") || line.equals("        }");
            length = ends || line.isBlank() ? 0 : length + 1;
            Due.holds("short methods, at '" + line + "'", length <= 60);
        }
    }
}
