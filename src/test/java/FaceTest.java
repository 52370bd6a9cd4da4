import java.io.IOException;
import java.lang.reflect.Constructor;
import java.lang.reflect.Field;
import java.lang.reflect.Method;
import java.lang.reflect.Modifier;
import java.nio.file.Files;
import java.nio.file.Path;
import java.util.Arrays;
import java.util.Set;
import java.util.TreeSet;
import java.util.regex.Matcher;
import java.util.regex.Pattern;

/** The public face is the document's and no more, and the source keeps to LANGUAGE.md where words show it. */
public final class FaceTest extends Checks {
    private static final String[] METHODS = {
        "int mode(boolean, boolean)",
        "int access(int, int, boolean) throws java.lang.IndexOutOfBoundsException",
        "int ask(int, int) throws java.lang.IndexOutOfBoundsException, java.lang.UnsupportedOperationException",
        "int answer() throws java.util.NoSuchElementException",
        "int answered(int, int) throws java.lang.IndexOutOfBoundsException",
        "boolean lock(int, boolean)",
        "int clean(int)",
        "int cleanAll()",
        "int drop(int)",
        "int way(int, int, int) throws java.lang.IndexOutOfBoundsException",
        "int caught(int, int) throws java.lang.IndexOutOfBoundsException",
        "int next(int) throws java.lang.IndexOutOfBoundsException",
        "int misses(int) throws java.lang.IllegalArgumentException",
        "int distance(int)",
        "int count(int)",
    };
    private static final Pattern FORBIDDEN = Pattern.compile(
        "->|::|\\bcatch *\\(|\\bfinally\\b|\\bsynchronized\\b|\\bassert\\b|Exact\\b|\\bdouble\\b|\\bfloat\\b|\\bpackage [a-z]");

    private static String names(Class<?>[] classes) {
        StringBuilder text = new StringBuilder();
        for (Class<?> c : classes) {
            text.append(text.length() == 0 ? "" : ", ").append(c.getName());
        }
        return text.toString();
    }

    private static String textOf(Method m) {
        String thrown = names(m.getExceptionTypes());
        return m.getReturnType().getName() + " " + m.getName() + "(" + names(m.getParameterTypes()) + ")"
            + (thrown.isEmpty() ? "" : " throws " + thrown);
    }

    private static void methods() {
        Set<String> open = new TreeSet<>();
        Set<String> hiddenNames = new TreeSet<>();
        for (Method m : CacheRules.class.getDeclaredMethods()) {
            if (m.isSynthetic()) {
                continue;
            }
            if (Modifier.isPrivate(m.getModifiers())) {
                hiddenNames.add(m.getName());
            } else {
                open.add(textOf(m));
                due(m.getName() + " is public and of objects", m.getModifiers(), Modifier.PUBLIC);
            }
        }
        due("the methods", open, new TreeSet<>(Arrays.asList(METHODS)));
        for (Method m : CacheRules.class.getMethods()) {
            due("a private method " + m.getName(), hiddenNames.contains(m.getName()), false);
        }
    }

    private static void fields() {
        for (Field f : CacheRules.class.getDeclaredFields()) {
            int mods = f.getModifiers();
            boolean constant = f.getName().equals("NONE");
            due(f.getName() + " open", Modifier.isPublic(mods), constant);
            due(f.getName() + " private", Modifier.isPrivate(mods), !constant);
        }
        due("NONE", CacheRules.NONE, -1);
        for (Class<?> c : CacheRules.class.getDeclaredClasses()) {
            due(c.getName() + " static", Modifier.isStatic(c.getModifiers()), true);
            due(c.getName() + " closed", Modifier.isPublic(c.getModifiers()) || Modifier.isProtected(c.getModifiers()), false);
            for (Field f : c.getDeclaredFields()) {
                boolean kept = !Modifier.isStatic(f.getModifiers()) || Modifier.isFinal(f.getModifiers());
                due(c.getName() + "." + f.getName() + " is no static state", kept, true);
            }
        }
        due("classes within some twelve", CacheRules.class.getDeclaredClasses().length < 12, true);
    }

    private static void source(String path) throws IOException {
        String text = Files.readString(Path.of(path));
        Matcher m = FORBIDDEN.matcher(text);
        while (m.find()) {
            due("the source's word", m.group(), "none of these");
        }
    }

    public static void main(String[] args) throws IOException {
        about = "the face";
        due("the class", CacheRules.class.getModifiers(), Modifier.PUBLIC | Modifier.FINAL);
        Constructor<?>[] made = CacheRules.class.getDeclaredConstructors();
        due("constructors", made.length, 1);
        due("the constructor", names(made[0].getParameterTypes()), "int, int, int, int");
        due("the constructor is public", made[0].getModifiers(), Modifier.PUBLIC);
        methods();
        fields();
        source(args.length > 0 ? args[0] : "src/main/java/CacheRules.java");
        end();
    }
}
