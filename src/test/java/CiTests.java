import java.io.IOException;
import java.nio.file.Files;
import java.nio.file.Path;
import java.util.ArrayList;
import java.util.List;

/** What .ci/run says of small projects: it passes the whole ones, and fails each that has a fault. */
public final class CiTests {
    private static final String MAIN = "main/src/main/java/RodGrids.java";
    private static final String OWN = "main/src/test/java/OwnTests.java";
    private static final String LAST = "main/src/test/java/LastTests.java";
    private static final String SHARED = "shared/tests/Runs.java";
    private static final String FAULTY = "public final class {";
    /** So many projects are under way at once. */
    private static final int AT_ONCE = 4;

    /** A small project, and what .ci/run has to say of it. */
    private static final class Project {
        final Path folder;
        final List<String> due = new ArrayList<>();
        int exit = 0;
        Shell shell;

        Project(Path place, String name) throws IOException {
            folder = place.resolve(name);
            Shell.copyScript(folder.resolve("main"));
            with(MAIN, "public final class RodGrids { public int wind() { return 192; } }");
            with(OWN, test("OwnTests", 192));
            with(SHARED, test("Runs", 192));
        }

        Project with(String file, String text) throws IOException {
            Shell.write(folder.resolve(file), text);
            return this;
        }

        Project without(String file) throws IOException {
            Files.delete(folder.resolve(file));
            return this;
        }

        Project prints(String line) {
            due.add(line);
            return this;
        }

        Project fails(String line) {
            exit = 1;
            return prints(line);
        }
    }

    private CiTests() {
    }

    public static void main(String[] args) throws IOException, InterruptedException {
        Check.due(".ci/run is executable", Files.isExecutable(Path.of(".ci", "run")), true);
        Path place = Files.createTempDirectory("projects");
        List<Project> projects = projects(place);
        for (int end = 0; end < projects.size() + AT_ONCE; end++) {
            if (end >= AT_ONCE) {
                judge(projects.get(end - AT_ONCE));
            }
            if (end < projects.size()) {
                start(projects.get(end));
            }
        }
        Shell.delete(place);
        Check.end("CiTests");
    }

    /** Starts the script from another folder, as it has to find its own project. */
    private static void start(Project project) throws IOException {
        project.shell = Shell.start(project.folder, "main/.ci/run");
    }

    private static void judge(Project project) throws IOException, InterruptedException {
        Check.about(project.folder.getFileName() + ": ");
        String printed = project.shell.due(project.exit);
        for (String line : project.due) {
            Check.due("it prints \"" + line + "\"", printed.lines().anyMatch(line::equals), true);
        }
        Check.due("its last line", Shell.lastLine(printed), project.due.get(project.due.size() - 1));
        Check.about("");
    }

    private static List<Project> projects(Path place) throws IOException {
        List<Project> projects = new ArrayList<>();
        projects.add(new Project(place, "whole").prints("== src/test/java/OwnTests.java")
                .prints("== ../shared/tests/Runs.java").prints("2 passed, 0 failed"));
        projects.add(new Project(place, "more tests").with(LAST, test("LastTests", 192))
                .with("shared/tests/Others.java", test("Others", 192)).prints("== src/test/java/LastTests.java")
                .prints("== ../shared/tests/Others.java").prints("4 passed, 0 failed"));
        projects.add(new Project(place, "the first own test fails").with(OWN, test("OwnTests", 191))
                .with("main/src/test/java/ZooTests.java", test("ZooTests", 192))
                .fails("FAILED: src/test/java/OwnTests.java").fails("2 passed, 1 failed"));
        projects.add(new Project(place, "the last own test fails").with(LAST, test("LastTests", 192))
                .with(OWN, test("OwnTests", 191)).fails("FAILED: src/test/java/OwnTests.java").fails("2 passed, 1 failed"));
        projects.add(new Project(place, "a test of shared fails").with(SHARED, test("Runs", 191))
                .with("shared/tests/Tail.java", test("Tail", 192))
                .fails("FAILED: ../shared/tests/Runs.java").fails("2 passed, 1 failed"));
        projects.add(new Project(place, "a test throws")
                .with(OWN, "public final class OwnTests { public static void main(String[] a) { throw new RuntimeException(); } }")
                .fails("FAILED: src/test/java/OwnTests.java").fails("1 passed, 1 failed"));
        projects.add(new Project(place, "the class does not compile").with(MAIN, FAULTY).fails("0 passed, 1 failed"));
        projects.add(new Project(place, "no class").without(MAIN).fails("0 passed, 1 failed"));
        projects.add(new Project(place, "an own test does not compile").with(OWN, FAULTY).fails("0 passed, 1 failed"));
        projects.add(new Project(place, "a test of shared does not compile").with(SHARED, FAULTY)
                .fails("FAILED: ../shared/tests/Runs.java").fails("1 passed, 1 failed"));
        // A test of ../shared has the class alone beside it.
        projects.add(new Project(place, "a test of shared wants the project's tests")
                .with(SHARED, test("Runs", 192).replace("main(String[] a) {", "main(String[] a) { OwnTests.main(a);"))
                .fails("FAILED: ../shared/tests/Runs.java").fails("1 passed, 1 failed"));
        projects.add(new Project(place, "no test in shared").without(SHARED)
                .fails("FAILED: there is no test under ../shared/tests").fails("1 passed, 1 failed"));
        return projects;
    }

    /** A test that passes if the drive of the small class is as due. */
    private static String test(String name, int drive) {
        return "public final class " + name + " { public static void main(String[] a) {"
                + " if (new RodGrids().wind() != " + drive + ") { System.exit(1); } } }";
    }
}
