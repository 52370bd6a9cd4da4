import java.io.IOException;
import java.nio.charset.StandardCharsets;
import java.nio.file.Files;
import java.nio.file.Path;
import java.util.ArrayList;
import java.util.Comparator;
import java.util.List;
import java.util.stream.Stream;

/** .ci/run ends as README.md says: tried on small projects beside a shared directory of their own. */
public final class RunTest extends Checks {
    private static final String SHARED = "../shared/tests/SharedRuns.java";
    private static final String OWN = "src/test/java/OwnTest.java";
    private static final String CLASS = "src/main/java/CacheRules.java";

    private static final String SHARED_PASSES = sharedTest("SharedRuns", 0);
    private static final String SHARED_FAILS = sharedTest("SharedRuns", 1);
    private static final String OWN_PASSES = ownTest(2);
    private static final String OWN_FAILS = ownTest(3);
    private static final String NO_JAVA = "this is no Java";

    /** A project that is being run, and what is due of it. */
    private record Trial(String name, boolean passes, Path room, Path said, Process process) {
    }

    private static final List<Trial> trials = new ArrayList<>();

    private static String sharedTest(String name, int code) {
        return "public final class " + name + " { public static void main(String[] a) {"
            + " System.out.println(\"ran " + name + " \" + new CacheRules(0, 2, 0, 0).count(13));"
            + " System.exit(" + code + "); } }";
    }

    /** The second of its tests is wrong but for two ways. */
    private static String ownTest(int ways) {
        return "public final class OwnTest extends Checks {"
            + " static void first() { System.out.println(\"ran first\"); }"
            + " static void second() { System.out.println(\"ran second\");"
            + " due(\"ways\", new CacheRules(0, 2, 0, 0).count(13), " + ways + "); }"
            + " public static void main(String[] a) { runAll(OwnTest.class); } }";
    }

    private static void copy(String path, Path project) throws IOException {
        Path to = project.resolve(path);
        Files.createDirectories(to.getParent());
        Files.copy(Path.of(path), to);
    }

    private static void write(String path, String text, Path project) throws IOException {
        Path to = project.resolve(path).normalize();
        Files.createDirectories(to.getParent());
        Files.writeString(to, text);
    }

    /** Starts .ci/run in a project like this one, with files that are written over it (path, text, ..). */
    private static void start(String name, boolean passes, String... files) throws IOException {
        Path room = Files.createTempDirectory("run-test");
        Path project = room.resolve("main");
        copy(".ci/run", project);
        copy(CLASS, project);
        copy("src/test/support/Checks.java", project);
        for (int k = 0; k + 1 < files.length; k += 2) {
            write(files[k], files[k + 1], project);
        }
        Path said = room.resolve("said");
        Process process = new ProcessBuilder(project.resolve(".ci/run").toString())
            .directory(room.toFile()).redirectErrorStream(true).redirectOutput(said.toFile()).start();
        trials.add(new Trial(name, passes, room, said, process));
    }

    private static void startAll() throws IOException {
        String more = "../shared/tests/MoreRuns.java";
        start("all pass", true, SHARED, SHARED_PASSES, more, sharedTest("MoreRuns", 0), OWN, OWN_PASSES);
        start("a shared test fails", false, SHARED, SHARED_FAILS, OWN, OWN_PASSES);
        start("the first shared test of two fails", false, SHARED, SHARED_PASSES, more, sharedTest("MoreRuns", 1));
        start("a shared test does not compile", false, SHARED, NO_JAVA, OWN, OWN_PASSES);
        start("there is no shared test", false, OWN, OWN_PASSES);
        start("an own test fails", false, SHARED, SHARED_PASSES, OWN, OWN_FAILS);
        start("an own test does not compile", false, SHARED, SHARED_PASSES, OWN, NO_JAVA);
        start("the class does not compile", false, SHARED, SHARED_PASSES, CLASS, NO_JAVA);
    }

    private static void look(Trial trial) throws IOException, InterruptedException {
        about = "README.md: how .ci/run ends, when " + trial.name();
        int code = trial.process().waitFor();
        String said = Files.readString(trial.said(), StandardCharsets.UTF_8);
        due("it passes", code == 0, trial.passes());
        due("it says that all pass", said.contains("all tests pass"), trial.passes());
        if (trial.passes()) {
            for (String ran : List.of("ran SharedRuns 2", "ran MoreRuns 2", "ran first", "ran second")) {
                due(ran, said.contains(ran), true);
            }
        }
    }

    private static void remove(Path room) throws IOException {
        try (Stream<Path> found = Files.walk(room)) {
            for (Path path : found.sorted(Comparator.reverseOrder()).toList()) {
                Files.delete(path);
            }
        }
    }

    public static void main(String[] args) throws IOException, InterruptedException {
        startAll();
        for (Trial trial : trials) {
            look(trial);
            remove(trial.room());
        }
        System.out.println(trials.size() + " tests");
        end();
    }
}
