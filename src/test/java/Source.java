import java.io.IOException;
import java.nio.file.Files;
import java.nio.file.Path;
import java.util.ArrayList;
import java.util.List;

/** The class's own text, for the tests that look at how it is written. */
final class Source {
    private static final Path FILE = Path.of("src/main/java/Multidell.java");

    private Source() {
    }

    static List<String> lines() {
        return linesOf(FILE);
    }

    static List<String> linesOf(Path file) {
        try {
            return Files.readAllLines(file);
        } catch (IOException unread) {
            throw new IllegalStateException(file + " is not there; the tests run from the project's root");
        }
    }

    /** The lines without comments, and with what stands between quotes taken out. */
    static List<String> codeLines() {
        List<String> code = new ArrayList<>();
        boolean inComment = false;
        for (String line : lines()) {
            String told = line.strip();
            inComment = inComment || told.startsWith("/*");
            if (inComment) {
                inComment = !told.endsWith("*/");
                code.add("");
            } else {
                code.add(line.replaceAll("\"[^\"]*\"", "\"\"").replaceAll("//.*", ""));
            }
        }
        return code;
    }

    /** The code in one line, each gap of it one blank. */
    static String code() {
        return String.join(" ", codeLines()).replaceAll("\\s+", " ");
    }
}
