import java.io.IOException;
import java.nio.file.Files;
import java.nio.file.Path;
import java.util.ArrayList;
import java.util.List;

/** The examples of README.md come out as it says. */
public final class ReadmeTest extends Trial {
    private static final String STUCK = " stuck";

    /** The lines of the block whose first line begins with these words, without that line. */
    private static List<String> block(List<String> readme, String firstWords) {
        List<String> lines = new ArrayList<>();
        boolean isInside = false;
        for (String line : readme) {
            if (isInside && line.startsWith("```")) {
                return lines;
            }
            if (isInside) {
                lines.add(line.strip());
            }
            isInside = isInside || line.strip().startsWith(firstWords);
        }
        return lines;
    }

    private static void stateAll(String statements) {
        for (String words : statements.split(";")) {
            type(words);
            due.same(words + "; counts", x.code(';') >= DEFINED, true);
        }
    }

    private static void showsAsSaid(String call, String said) {
        boolean isStuck = said.endsWith(STUCK);
        String text = isStuck ? said.substring(0, said.length() - STUCK.length()) : said;
        due.same("text and cursor after " + call, seen().replace('|', '_'), text);
        due.same("stuck after " + call, x.stuck(), isStuck);
    }

    private static void example(String line) {
        on("README.md, " + line);
        String[] columns = line.split(" {2,}");
        due.same("columns", columns.length, 4);
        if (columns.length == 4) {
            stateAll(columns[0]);
            write(columns[1]);
            x.settle();
            showsAsSaid("settle()", columns[2]);
            x.finish();
            showsAsSaid("finish()", columns[3]);
        }
    }

    public static void main(String[] args) throws IOException {
        List<String> readme = Files.readAllLines(Path.of("README.md"));
        List<String> examples = block(readme, "statements   ");
        on("README.md");
        due.same("has examples", examples.size() >= 8, true);
        for (String line : examples) {
            example(line);
        }
        end(args);
    }
}
