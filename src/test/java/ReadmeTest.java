import java.io.File;
import java.io.IOException;
import java.nio.file.Files;
import java.nio.file.Path;
import java.util.ArrayList;
import java.util.List;
import java.util.TreeSet;
import java.util.regex.Matcher;
import java.util.regex.Pattern;

/** README.md tells what the document tells of each call, and its example runs as it says. */
public final class ReadmeTest {
    private static final String CLASS = "src/main/java/HailLeague.java";
    private static final Pattern CALL =
            Pattern.compile("public (?:int|double|long) (\\w+)\\(([^)]*)\\)([^;]*);");
    private static final Pattern RANGE = Pattern.compile("-?\\d+ to -?\\d+");
    private static final Pattern EXCEPTION = Pattern.compile("\\w+Exception");
    private static final int TAKES = 2;
    private static final int THROWS = 4;

    private static String readme;

    public static void main(String[] args) throws IOException, InterruptedException {
        readme = Files.readString(Path.of("README.md"));
        eachCallHasItsRow();
        eachNumberOfAFactIsTold();
        eachTestHasItsRow();
        theExampleRuns();
        Check.end();
    }

    private static void eachCallHasItsRow() {
        int calls = 0;
        Matcher call = CALL.matcher(Document.part("The public face"));
        while (call.find()) {
            calls++;
            rowIsAsDue(call.group(1), namesOf(call.group(2)), call.group(3));
        }
        Check.due("calls of the face", 17, calls);
    }

    private static void rowIsAsDue(String name, String parameters, String throwsPart) {
        String start = "| `" + name + "(" + parameters + ")` |";
        List<String> rows = rowsThatStartWith(start);
        Check.due("rows of README.md that start with " + start, 1, rows.size());
        if (rows.size() != 1) {
            return;
        }
        String[] cells = rows.get(0).split("\\|");
        Check.due("cells of " + start, THROWS + 1, cells.length);
        if (cells.length == THROWS + 1) {
            Check.due("what " + name + " throws", all(EXCEPTION, throwsPart), all(EXCEPTION, cells[THROWS]));
            Check.due("what " + name + " takes", allOnce(RANGE, Document.part(name)), allOnce(RANGE, cells[TAKES]));
        }
    }

    /** The list of what the number stands for must have each number, and in order. */
    private static void eachNumberOfAFactIsTold() {
        numbersAreTold("vineyard", 7);
        numbersAreTold("about", 5);
        numbersAreTold("cloud", 4);
        numbersAreTold("count", 10);
    }

    private static void numbersAreTold(String name, int facts) {
        List<String> rows = rowsThatStartWith("- `" + name + "`:");
        Check.due("lists of what " + name + " tells", 1, rows.size());
        if (rows.size() != 1) {
            return;
        }
        String text = rows.get(0).substring(rows.get(0).indexOf(':') + 1);
        String[] parts = text.split(";");
        Check.due("facts that " + name + " tells", facts, parts.length);
        for (int i = 0; i < parts.length; i++) {
            Check.due("number " + i + " of " + name, i + " ", parts[i].trim().substring(0, 2));
        }
    }

    private static void eachTestHasItsRow() {
        String[] files = new File("src/test/java").list();
        List<String> tests = new ArrayList<>();
        for (String file : files == null ? new String[0] : files) {
            tests.add(file.replace(".java", ""));
        }
        List<String> told = new ArrayList<>();
        for (String row : rowsThatStartWith("| `")) {
            String name = row.substring(3, row.indexOf('`', 3));
            if (name.endsWith("Test")) {
                told.add(name);
            }
        }
        Check.due("tests in README.md", new TreeSet<>(tests).toString(), new TreeSet<>(told).toString());
        Check.due("rows of tests in README.md", tests.size(), told.size());
    }

    /** Does what README.md tells its reader to do, in a folder that has the class alone. */
    private static void theExampleRuns() throws IOException, InterruptedException {
        Path folder = Files.createTempDirectory("readme");
        Files.createDirectories(folder.resolve(CLASS).getParent());
        Files.copy(Path.of(CLASS), folder.resolve(CLASS));
        Files.writeString(folder.resolve("Season.java"), block("java", "public class Season"));
        StringBuilder printed = new StringBuilder();
        for (String command : block("sh", "javac").split("\n")) {
            printed.append(outputOf(command, folder));
        }
        Check.due("what the example prints", block("text", ""), printed.toString());
    }

    private static String outputOf(String command, Path folder) throws IOException, InterruptedException {
        Process process = new ProcessBuilder(command.split(" ")).directory(folder.toFile())
                .redirectErrorStream(true).start();
        String output = new String(process.getInputStream().readAllBytes());
        Check.due(command + " ends with", 0, process.waitFor());
        return output;
    }

    /** The first block of the language that has the words. */
    private static String block(String language, String words) {
        Matcher block = Pattern.compile("(?ms)^```" + language + "\n(.*?)^```$").matcher(readme);
        while (block.find()) {
            if (block.group(1).contains(words)) {
                return block.group(1);
            }
        }
        Check.due("README.md has a block of " + language + " with \"" + words + "\"", 1, 0);
        return "";
    }

    private static List<String> rowsThatStartWith(String start) {
        List<String> rows = new ArrayList<>();
        for (String row : readme.split("\n")) {
            if (row.startsWith(start)) {
                rows.add(row);
            }
        }
        return rows;
    }

    private static String namesOf(String parameters) {
        return parameters.replaceAll("(int|boolean) ", "");
    }

    private static String all(Pattern pattern, String text) {
        List<String> found = new ArrayList<>();
        Matcher matcher = pattern.matcher(text);
        while (matcher.find()) {
            found.add(matcher.group());
        }
        return found.toString();
    }

    private static String allOnce(Pattern pattern, String text) {
        TreeSet<String> found = new TreeSet<>();
        Matcher matcher = pattern.matcher(text);
        while (matcher.find()) {
            found.add(matcher.group());
        }
        return found.toString();
    }
}
