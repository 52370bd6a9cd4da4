import java.io.File;
import java.io.IOException;
import java.lang.reflect.InvocationTargetException;
import java.lang.reflect.Method;
import java.lang.reflect.Modifier;
import java.nio.file.Files;
import java.nio.file.Path;
import java.util.ArrayList;
import java.util.List;
import java.util.Set;
import java.util.TreeSet;
import java.util.regex.Matcher;
import java.util.regex.Pattern;

/** What README.md says of the use of the class and of its tests is what they do. */
public final class ReadmeTest extends Checks {
    private static final Pattern MAKING = Pattern.compile(
        "CacheRules x = new CacheRules\\((-?\\d+), (-?\\d+), (-?\\d+), (-?\\d+)\\); +// .+");
    private static final Pattern CALL = Pattern.compile(
        "x\\.(\\w+)\\(([^()]*)\\); +// (-?\\d+|true|false|throws \\w+): .+");
    private static final Pattern TABLE_CALL = Pattern.compile("`(\\w+)\\(([^()]*)\\)`");
    /** Paths of the project; what lies beside it, in ../shared, is not the project's to promise. */
    private static final Pattern PATH = Pattern.compile("`(?!\\.\\./)([\\w./]+/[\\w./]+)`");
    private static final Pattern TEST = Pattern.compile("`(\\w+Test)`");

    private static List<String> lines() throws IOException {
        return Files.readAllLines(Path.of("README.md"));
    }

    /** The lines of the one example. */
    private static List<String> example() throws IOException {
        List<String> all = lines();
        int from = all.indexOf("```java");
        due("there is one example", from >= 0 && from == all.lastIndexOf("```java"), true);
        List<String> rest = all.subList(from + 1, all.size());
        return rest.subList(0, rest.indexOf("```"));
    }

    private static Set<String> faceNames() {
        Set<String> names = new TreeSet<>();
        for (Method m : CacheRules.class.getDeclaredMethods()) {
            if (Modifier.isPublic(m.getModifiers())) {
                names.add(m.getName());
            }
        }
        return names;
    }

    private static int parameters(String name) {
        for (Method m : CacheRules.class.getDeclaredMethods()) {
            if (m.getName().equals(name) && Modifier.isPublic(m.getModifiers())) {
                return m.getParameterCount();
            }
        }
        return NONE;
    }

    private static Object[] values(String list) {
        if (list.isEmpty()) {
            return new Object[0];
        }
        String[] words = list.split(", ");
        Object[] values = new Object[words.length];
        for (int k = 0; k < words.length; k++) {
            boolean truth = words[k].equals("true") || words[k].equals("false");
            values[k] = truth ? (Object) Boolean.valueOf(words[k]) : (Object) Integer.valueOf(words[k]);
        }
        return values;
    }

    private static String answerOf(CacheRules x, String name, Object[] values) throws IllegalAccessException {
        Class<?>[] types = new Class<?>[values.length];
        for (int k = 0; k < values.length; k++) {
            types[k] = values[k] instanceof Boolean ? boolean.class : int.class;
        }
        try {
            return String.valueOf(CacheRules.class.getMethod(name, types).invoke(x, values));
        } catch (NoSuchMethodException e) {
            return "no such method";
        } catch (InvocationTargetException e) {
            return "throws " + e.getCause().getClass().getSimpleName();
        }
    }

    static void exampleAnswers() throws IOException, IllegalAccessException {
        about = "README.md: the example";
        CacheRules x = null;
        int calls = 0;
        for (String line : example()) {
            Matcher making = MAKING.matcher(line);
            Matcher call = CALL.matcher(line);
            if (making.matches()) {
                Object[] v = values(line.substring(making.start(1), making.end(4)));
                x = new CacheRules((Integer) v[0], (Integer) v[1], (Integer) v[2], (Integer) v[3]);
            } else if (x != null && call.matches()) {
                due(line, answerOf(x, call.group(1), values(call.group(2))), call.group(3));
                calls++;
            } else {
                due(line, "no call that can be read", "a call with its answer");
            }
        }
        due("the example has calls", calls > 0, true);
    }

    static void exampleUsesEveryMethod() throws IOException {
        about = "README.md: the example shows every method";
        Set<String> used = new TreeSet<>();
        for (String line : example()) {
            Matcher call = CALL.matcher(line);
            if (call.matches()) {
                used.add(call.group(1));
            }
        }
        due("methods", used, faceNames());
    }

    static void exampleShowsTheNumbersOfItsObject() throws IOException {
        about = "README.md: '1 set of 2 ways, rule 0, 1 catching row'";
        CacheRules x = new CacheRules(0, 2, 0, 1);
        due("the numbers", x.count(12) + " set of " + x.count(13) + " ways", "1 set of 2 ways");
        reads(x, 1, 2, 1, 3, 4);
        due("line 2 went by rule 0, line 1 behind it into the one row", linesOf(x, 0) + " / " + caughtLines(x), "4 3 / 1:1:0");
    }

    static void tableTellsEveryMethod() throws IOException {
        about = "README.md: the table";
        Set<String> told = new TreeSet<>();
        for (String line : lines()) {
            if (!line.startsWith("| `")) {
                continue;
            }
            Matcher call = TABLE_CALL.matcher(line.substring(0, line.indexOf('|', 1)));
            while (call.find()) {
                told.add(call.group(1));
                int count = call.group(2).isEmpty() ? 0 : call.group(2).split(", ").length;
                due("parameters of " + call.group(), count, parameters(call.group(1)));
            }
        }
        due("methods", told, faceNames());
    }

    static void filesAreThere() throws IOException {
        about = "README.md: the files that it names";
        Set<String> named = new TreeSet<>();
        Matcher path = PATH.matcher(String.join("\n", lines()));
        while (path.find()) {
            named.add(path.group(1));
            due(path.group(1) + " is there", new File(path.group(1)).exists(), true);
        }
        due("the class is named", named.contains("src/main/java/CacheRules.java"), true);
        due("the script is named", named.contains(".ci/run"), true);
        due("the script can be run", new File(".ci/run").canExecute(), true);
    }

    static void testsAreThoseOfTheProject() throws IOException {
        about = "README.md: the tests that it names";
        Set<String> named = new TreeSet<>();
        Matcher test = TEST.matcher(String.join("\n", lines()));
        while (test.find()) {
            named.add(test.group(1));
        }
        Set<String> there = new TreeSet<>();
        List<String> others = new ArrayList<>();
        for (String name : new File("src/test/java").list()) {
            if (name.endsWith(".java")) {
                there.add(name.substring(0, name.length() - ".java".length()));
            } else {
                others.add(name);
            }
        }
        due("tests", named, there);
        due("what is no test", others, List.of());
    }

    public static void main(String[] args) {
        runAll(ReadmeTest.class);
    }
}
