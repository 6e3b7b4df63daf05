import java.io.IOException;
import java.nio.file.Files;
import java.nio.file.Path;
import java.util.ArrayList;
import java.util.List;

/** The public face as it stands in the document, line by line. */
final class FaceText {
    private static final Path DOCUMENT = Path.of("../shared/DOC.md");

    private FaceText() {
    }

    static List<String> lines() throws IOException {
        String document = Files.readString(DOCUMENT);
        int start = document.indexOf("\n", document.indexOf("```java"));
        List<String> lines = new ArrayList<>();
        for (String line : document.substring(start, document.indexOf("```", start)).split("\n")) {
            if (!line.isBlank() && !line.startsWith("}")) {
                lines.add(line.trim());
            }
        }
        return lines;
    }

    /** The methods alone. */
    static List<String> methods() throws IOException {
        List<String> methods = new ArrayList<>();
        for (String line : lines()) {
            if (line.matches("public \\w+ \\w+\\(.*;")) {
                methods.add(line);
            }
        }
        return methods;
    }

    /** "public int f(int a) throws E;" as "int f(int a)". */
    static String signature(String method) {
        return method.substring("public ".length(), method.indexOf(')') + 1);
    }

    static List<String> refusals(String method) {
        String[] parts = method.substring(0, method.length() - 1).split(" throws ");
        return parts.length < 2 ? List.of() : List.of(parts[1].split(", "));
    }
}
