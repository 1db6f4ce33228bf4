import java.io.IOException;
import java.lang.reflect.Method;
import java.lang.reflect.Modifier;
import java.nio.file.Files;
import java.nio.file.Path;
import java.util.HashSet;
import java.util.List;
import java.util.Set;
import java.util.regex.Matcher;
import java.util.regex.Pattern;
import java.util.stream.Stream;

/** README.md is there, its lines of code answer what stands behind them, and its commands do what it says of them. */
public final class ReadmeTests {
    private static final Path OWN_TESTS = Path.of("src", "test", "java");
    private static final String USE = "How to use it";
    private static final String TESTS = "How to run the tests";
    private static final Pattern CALL =
            Pattern.compile("(bench\\.(\\w+)\\([^;]*\\)); +// (answers|throws) ([^\\s:]+)(: \\S.*)?");
    private static final Pattern PLAIN = Pattern.compile("RodGrids bench = new RodGrids\\(\\);"
            + "|for \\(char sign : \"[^\"]*\"\\.toCharArray\\(\\)\\) \\{|    bench\\.type\\(sign\\);|\\}|");
    private static final Pattern COMMAND = Pattern.compile("(\\S.*?) +# (makes (\\S+)|ends with \"([^\"]+)\")");

    private ReadmeTests() {
    }

    public static void main(String[] args) throws IOException, InterruptedException {
        Check.due("README.md is there", Files.isRegularFile(Readme.PAGE), true);
        if (Files.isRegularFile(Readme.PAGE)) {
            Path place = Files.createTempDirectory("readme");
            Readme readme = new Readme();
            parts(readme);
            names(readme);
            program(readme, place);
            commands(readme, place);
            Shell.delete(place);
        }
        Check.end("ReadmeTests");
    }

    /** How to use the class stands in lines of Java, how to run the tests in commands. */
    private static void parts(Readme readme) {
        boolean tellsUse = false;
        boolean tellsTests = false;
        for (Readme.Line line : readme.lines) {
            boolean isKnown = line.language.equals("java") || line.language.equals("sh");
            Check.due("line " + line.number + " of README.md is Java or a command", isKnown, true);
            tellsUse |= line.heading.equals(USE) && line.text.equals("RodGrids bench = new RodGrids();");
            tellsTests |= line.heading.equals(TESTS) && line.text.matches("\\.ci/run +# .*");
        }
        Check.due("README.md says how to use the class", tellsUse, true);
        Check.due("README.md says how to run the tests", tellsTests, true);
    }

    /** What README.md names must be there, and no test may be left out. */
    private static void names(Readme readme) throws IOException {
        for (String word : readme.codeWords) {
            if (word.contains("/") && !word.contains("*")) {
                Check.due("README.md names " + word + ", which is there", Files.exists(Path.of(word)), true);
            } else if (word.matches("[A-Z][A-Za-z]*(Tests|Edges)?(\\.java)?")) {
                Path file = OWN_TESTS.resolve(word.endsWith(".java") ? word : word + ".java");
                Check.due("README.md names " + word + ", which is there", Files.exists(file), true);
            }
        }
        try (Stream<Path> files = Files.list(OWN_TESTS)) {
            for (Path file : files.toList()) {
                String name = file.toString().replace('\\', '/');
                if (name.endsWith("Tests.java")) {
                    Check.due("README.md names " + name, readme.codeWords.contains(name), true);
                }
            }
        }
    }

    /** Makes a program of the lines of Java, in which each call is compared with what stands behind it, and runs it. */
    private static void program(Readme readme, Path place) throws IOException, InterruptedException {
        StringBuilder source = new StringBuilder("public final class ReadmeProgram {\npublic static void main(String[] args) {\n");
        Set<String> shown = new HashSet<>();
        for (Readme.Line line : readme.linesOf("java")) {
            Matcher call = CALL.matcher(line.text);
            boolean isCall = call.matches();
            boolean canBeTested = isCall || PLAIN.matcher(line.text).matches();
            Check.due("line " + line.number + " of README.md can be tested", canBeTested, true);
            source.append(isCall ? comparison(line.number, call) : line.text).append('\n');
            shown.add(isCall ? call.group(2) : line.text.contains("bench.type(") ? "type" : "");
        }
        source.append("Check.end(\"the program of README.md\");\n}\n}\n");
        for (Method method : RodGrids.class.getDeclaredMethods()) {
            if (Modifier.isPublic(method.getModifiers())) {
                Check.due("README.md shows " + method.getName(), shown.contains(method.getName()), true);
            }
        }
        Shell.write(place.resolve("ReadmeProgram.java"), source.toString());
        String path = Path.of(System.getProperty("java.class.path")).toAbsolutePath().toString();
        Shell.start(place, "javac -encoding UTF-8 -cp '" + path + "' -d . ReadmeProgram.java").due(0);
        Shell.start(place, "java -cp '" + path + "':. ReadmeProgram").due(0);
    }

    private static String comparison(int number, Matcher call) {
        String due = call.group(3).equals("throws") ? "throws." + call.group(4) : call.group(4);
        String what = "README.md, line " + number + ": " + call.group(1);
        return "Check.due(\"" + what.replace("\"", "\\\"") + "\", String.valueOf(Check.outcome(() -> " + call.group(1)
                + ")), \"" + due + "\");";
    }

    /** Does every command in a copy of the checkout: without this test, which would do them again and again. */
    private static void commands(Readme readme, Path place) throws IOException, InterruptedException {
        Path copy = place.resolve("main");
        Shell.copy(Path.of("src"), copy.resolve("src"));
        Shell.copyScript(copy);
        Shell.copy(Path.of("..", "shared"), place.resolve("shared"));
        Shell.copy(Readme.PAGE, copy.resolve("README.md"));
        Files.delete(copy.resolve(OWN_TESTS).resolve("ReadmeTests.java"));
        for (Readme.Line line : readme.linesOf("sh")) {
            Matcher command = COMMAND.matcher(line.text);
            boolean canBeTested = command.matches();
            Check.due("line " + line.number + " of README.md can be tested", canBeTested, true);
            if (canBeTested) {
                doCommand(copy, command);
            }
        }
        randomRuns(copy);
        changedDocument(copy, place.resolve("shared").resolve("DOC.md"));
    }

    private static void doCommand(Path copy, Matcher command) throws IOException, InterruptedException {
        if (command.group(3) != null) {
            Path made = copy.resolve(command.group(3));
            Files.deleteIfExists(made);
            Shell.start(copy, command.group(1)).due(0);
            Check.due(command.group(1) + " makes " + command.group(3), Files.exists(made), true);
        } else {
            String last = Shell.lastLine(Shell.start(copy, command.group(1)).due(0));
            boolean isDue = last.endsWith(command.group(4));
            Check.due(command.group(1) + " ends with \"" + command.group(4) + "\": \"" + last + "\"", isDue, true);
        }
    }

    /** The first number is the first seed, the second one tells how many runs there are. */
    private static void randomRuns(Path copy) throws IOException, InterruptedException {
        long both = answers(copy, "java -cp build ModelTests 7 2");
        long single = answers(copy, "java -cp build ModelTests 7 1") + answers(copy, "java -cp build ModelTests 8 1");
        Check.due("the answers of the runs 7 and 8", both, single);
    }

    private static long answers(Path copy, String command) throws IOException, InterruptedException {
        String last = Shell.lastLine(Shell.start(copy, command).due(0));
        Matcher count = Pattern.compile("ModelTests: (\\d+) of .*").matcher(last);
        return count.matches() ? Long.parseLong(count.group(1)) : -1;
    }

    /** EdgeTests fails if a quote does not stand in the document, or if a sentence there has no test. */
    private static void changedDocument(Path copy, Path page) throws IOException, InterruptedException {
        String text = Files.readString(page);
        String edges = "java -cp build EdgeTests";
        for (String[] change : List.of(new String[] {"There are 5 shelves", "There are 6 shelves"},
                new String[] {"Winds the drive up", "It strikes, too. Winds the drive up"})) {
            String changed = text.replace(change[0], change[1]);
            Check.due("the changed document differs", changed.equals(text), false);
            Files.writeString(page, changed);
            Shell.start(copy, edges).due(1);
        }
        Files.writeString(page, text);
        Shell.start(copy, edges).due(0);
    }
}
