import java.io.IOException;
import java.nio.file.Files;
import java.nio.file.Path;
import java.util.ArrayList;
import java.util.List;
import java.util.regex.Matcher;
import java.util.regex.Pattern;

/** The calls that README.md shows, each with the answer that stands behind it. It is run from the project's directory. */
public final class ReadmeTest {
    private static final Pattern SHOWN = Pattern.compile("shed\\.(\\w+)\\((.*)\\); +// (\\w+): .*");
    private static final int LEAST = 20;

    public static void main(String[] args) throws IOException {
        List<String> rows = new ArrayList<>();
        for (String line : Files.readAllLines(Path.of("README.md"))) {
            Matcher shown = SHOWN.matcher(line);
            if (shown.matches()) {
                rows.add(shown.group(1) + words(shown.group(2)) + " = " + shown.group(3));
            }
        }
        List<String> wrong = Calls.wrongOfBoth(rows.toArray(new String[0]));
        for (String one : wrong) {
            System.out.println("README.md: " + one);
        }
        System.out.println(rows.size() + " calls of README.md, " + wrong.size() + " wrong");
        if (!wrong.isEmpty() || rows.size() < LEAST) {
            System.exit(1);
        }
    }

    private static String words(String arguments) {
        String told = arguments.replace("ShelfSlots.MOVES", "0").replaceAll("L$", "");
        return told.isEmpty() ? "" : " " + told.replace(", ", " ");
    }
}
