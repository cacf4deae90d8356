import java.io.IOException;
import java.lang.reflect.Constructor;
import java.lang.reflect.Field;
import java.lang.reflect.Method;
import java.lang.reflect.Modifier;
import java.nio.file.Files;
import java.nio.file.Path;
import java.util.Set;
import java.util.TreeSet;
import java.util.regex.Matcher;
import java.util.regex.Pattern;

/** The public face of the document, and the rules of LANGUAGE.md that can be read off the class and its file. */
public final class FaceTest {
    private static final Checks checks = new Checks();

    private static final String METHODS = "add(int) append(int) bestSize() clearText() combine(boolean) costsWith(int)"
        + " count(int) errorPosition() finish() flush() grant(int) inMemory(int) isCollecting() isDone() isMerging()"
        + " memory(int) merge() mergesWith(int) ofMerge(int) rank(int) read() restore() row(int,int,int) run()"
        + " runAt(int) runs() save() size(int) step(int) undo()";

    public static void main(String[] args) throws IOException {
        checks.begin("face");
        classItself();
        methods();
        constants();
        nestedClasses();
        checks.begin("words of " + args[0]);
        String source = Files.readString(Path.of(args[0]));
        words(source);
        lengths(source);
        objects(source);
        checks.end();
    }

    private static void classItself() {
        int flags = GrantedSort.class.getModifiers();
        checks.holds("public and final", Modifier.isPublic(flags) && Modifier.isFinal(flags));
        Constructor<?>[] constructors = GrantedSort.class.getDeclaredConstructors();
        checks.same("constructors", constructors.length, 1);
        checks.holds("public without parameters",
            Modifier.isPublic(constructors[0].getModifiers()) && constructors[0].getParameterCount() == 0);
    }

    private static void methods() {
        Set<String> open = new TreeSet<>();
        Set<String> openNames = new TreeSet<>();
        Set<String> closedNames = new TreeSet<>();
        for (Method m : GrantedSort.class.getDeclaredMethods()) {
            if (Modifier.isPrivate(m.getModifiers())) {
                closedNames.add(m.getName());
                continue;
            }
            checks.holds(m.getName() + " is public", Modifier.isPublic(m.getModifiers()));
            boolean answersInt = m.getReturnType() == int.class && !Modifier.isStatic(m.getModifiers());
            checks.holds(m.getName() + " answers an int of the object", answersInt);
            String parameters = java.util.Arrays.toString(m.getParameterTypes());
            open.add(m.getName() + parameters.replace("[", "(").replace("]", ")").replace(" ", ""));
            openNames.add(m.getName());
        }
        checks.same("the methods", String.join(" ", open), METHODS);
        closedNames.retainAll(openNames);
        checks.same("private methods with a public name", closedNames.toString(), "[]");
    }

    private static void constants() {
        Set<String> open = new TreeSet<>();
        for (Field f : GrantedSort.class.getDeclaredFields()) {
            int flags = f.getModifiers();
            if (!Modifier.isPrivate(flags)) {
                open.add(f.getName());
                checks.holds(f.getName() + " is a constant",
                    f.getType() == int.class && Modifier.isPublic(flags) && Modifier.isStatic(flags));
            }
            checks.holds(f.getName() + " is final if static", !Modifier.isStatic(flags) || Modifier.isFinal(flags));
        }
        checks.same("the constants", open.toString(), "[BAD_TEXT, BAD_VALUE, LIMIT, NONE, NOT_POSSIBLE, NO_SUCH]");
    }

    private static void nestedClasses() {
        checks.holds("some twelve classes", GrantedSort.class.getDeclaredClasses().length < 12);
        for (Class<?> c : GrantedSort.class.getDeclaredClasses()) {
            for (Method m : c.getDeclaredMethods()) {
                checks.holds(c.getName() + "." + m.getName() + " has few parameters", m.getParameterCount() <= 7);
            }
            int flags = c.getModifiers();
            checks.holds(c.getName() + " is static", Modifier.isStatic(flags));
            checks.holds(c.getName() + " is not open", !Modifier.isPublic(flags) && !Modifier.isProtected(flags));
            checks.holds(c.getName() + " has some twenty fields", c.getDeclaredFields().length <= 20);
        }
    }

    private static void words(String source) {
        String code = source.replaceAll("(?s)/\\*.*?\\*/", "").replaceAll("//[^\n]*", "");
        String[] ruledOut = {"throw", "throws", "try", "catch", "synchronized", "assert", "import", "package",
            "instanceof", "equals", "hashCode", "toString", "Exact", "random", "Thread"};
        for (String word : ruledOut) {
            Matcher m = Pattern.compile("\\b\\w*" + word + "\\b").matcher(code);
            checks.holds("no " + word, !m.find());
        }
        checks.holds("no lambda", !code.contains("->"));
        checks.holds("no method reference", !code.contains("::"));
    }

    /** Each method ends with a brace that is as far from the left as its first line. */
    private static void lengths(String source) {
        Matcher m = Pattern.compile("(?ms)^( {4}(?: {4})?)(?:[\\w\\[\\]]+ )*(\\w+)\\([^()\n]*\\) \\{\n.*?^\\1\\}$")
            .matcher(source);
        int methods = 0;
        while (m.find()) {
            methods++;
            checks.holds(m.group(2) + " is short", m.group().lines().count() <= 60);
        }
        checks.holds("methods were found", methods > 100);
    }

    /** Objects are made with the sort, so that the calls of a run need no room. */
    private static void objects(String source) {
        String field = " +(private )?final \\S+ \\w+ = new .*";
        String recorded = " +states\\[i\\] = new SortState\\(\\);";
        for (String line : source.lines().filter(l -> l.matches(".*\\bnew\\b.*")).toList()) {
            checks.holds("made with the sort: " + line.trim(), line.matches(field + "|" + recorded));
        }
    }
}
