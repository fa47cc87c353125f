import java.io.IOException;
import java.lang.reflect.Field;
import java.lang.reflect.Method;
import java.lang.reflect.Modifier;
import java.nio.file.Files;
import java.nio.file.Path;
import java.util.ArrayList;
import java.util.HashSet;
import java.util.List;
import java.util.Map;
import java.util.Set;
import java.util.TreeMap;
import java.util.TreeSet;
import java.util.regex.Matcher;
import java.util.regex.Pattern;

/**
 * The rules of LANGUAGE.md that a program can look at: in the source (from the project's directory,
 * where .ci/run starts it) and in the compiled classes.
 */
public final class LanguageTest {
    private static final Path SOURCE = Path.of("src/main/java/CyclePatterns.java");
    private static final String LIBRARY = "Math\\.(floorDiv|floorMod|abs|max|min)|System\\.arraycopy";
    private static final Pattern HEADER =
            Pattern.compile("\\n +(?:[a-z]+ )*[\\w\\[\\]]+ (\\w+)\\(([^(){};]*)\\) \\{");
    private static final Pattern CALL = Pattern.compile("(new )?\\b((?:[A-Z]\\w*\\.)?\\w+)\\(");

    /** The source without comments and written characters. */
    private static String code;
    private static final Map<String, String> BODIES = new TreeMap<>();

    public static void main(String[] args) throws IOException {
        String source = Files.readString(SOURCE);
        code = source.replaceAll("(?s)/\\*.*?\\*/", "").replaceAll("//.*", "").replaceAll("'[^']'", "0");
        findBodies();
        Check.test("rule 1: no private method bears the name of a public one", LanguageTest::names);
        Check.test("rules 1, 2: the classes inside are static and not public", LanguageTest::inside);
        Check.test("rules 3, 4: only the library that is listed", LanguageTest::library);
        Check.test("rule 5: static fields are final numbers", LanguageTest::statics);
        Check.test("rule 6: nothing is thrown", LanguageTest::words);
        Check.test("rule 11: seven parameters, sixty lines, twelve classes, twenty fields", LanguageTest::sizes);
        Check.test("rule 11: calls that are no recursion go at most eight deep", LanguageTest::depth);
        Check.end();
    }

    /** Methods of one name count as one: that can only make the calls look deeper. */
    private static void findBodies() {
        Matcher header = HEADER.matcher(code);
        while (header.find()) {
            BODIES.merge(header.group(1), bodyFrom(header.end()), String::concat);
        }
    }

    private static String bodyFrom(int start) {
        int open = 1;
        int end = start;
        while (open > 0 && end < code.length()) {
            char sign = code.charAt(end);
            open += sign == '{' ? 1 : sign == '}' ? -1 : 0;
            end++;
        }
        return code.substring(start, end);
    }

    private static List<Class<?>> classes() {
        List<Class<?>> classes = new ArrayList<>(List.of(CyclePatterns.class.getDeclaredClasses()));
        classes.add(CyclePatterns.class);
        return classes;
    }

    private static void names() {
        Set<String> ofTheFace = new TreeSet<>();
        for (Method method : CyclePatterns.class.getDeclaredMethods()) {
            if (Modifier.isPublic(method.getModifiers())) {
                ofTheFace.add(method.getName());
            }
        }
        Check.due("methods of the face", ofTheFace.size(), 11);
        for (Class<?> each : classes()) {
            for (Method method : each.getDeclaredMethods()) {
                boolean isFace = each == CyclePatterns.class && Modifier.isPublic(method.getModifiers());
                Check.due(each.getName() + "." + method.getName() + " bears such a name",
                        !isFace && ofTheFace.contains(method.getName()), false);
            }
        }
    }

    private static void inside() {
        for (Class<?> each : CyclePatterns.class.getDeclaredClasses()) {
            int modifiers = each.getModifiers();
            Check.due(each + " is static", Modifier.isStatic(modifiers), true);
            Check.due(each + " is public or protected",
                    Modifier.isPublic(modifiers) || Modifier.isProtected(modifiers), false);
        }
    }

    private static void library() {
        Set<String> own = new HashSet<>();
        for (Class<?> each : classes()) {
            own.add(each.getSimpleName());
        }
        Matcher name = Pattern.compile("\\b([A-Z][a-z]\\w*)(\\.\\w+)?").matcher(code);
        while (name.find()) {
            boolean isFine = own.contains(name.group(1)) || name.group().matches(LIBRARY);
            Check.due(name.group() + " is fine", isFine, true);
        }
        Check.due("has imports", code.contains("import "), false);
        Check.due("has doubles or floats", code.matches("(?s).*\\b(double|float)\\b.*"), false);
    }

    private static void statics() {
        for (Class<?> each : classes()) {
            for (Field field : each.getDeclaredFields()) {
                if (Modifier.isStatic(field.getModifiers())) {
                    Check.due(field + " is final", Modifier.isFinal(field.getModifiers()), true);
                    Check.due("type of " + field, field.getType().getName(), "int");
                }
            }
        }
    }

    private static void words() {
        String[] refused = {"throw", "throws", "try", "catch", "finally", "synchronized", "assert",
            "package", "native", "transient", "volatile"};
        for (String word : refused) {
            Check.due("has " + word, code.matches("(?s).*\\b" + word + "\\b.*"), false);
        }
        Check.due("has a lambda or a method reference", code.contains("->") || code.contains("::"), false);
        Check.due("has an annotation", code.contains("@"), false);
    }

    private static void sizes() {
        Check.due("more than twelve classes", classes().size() > 12, false);
        for (Class<?> each : classes()) {
            int fields = 0;
            for (Field field : each.getDeclaredFields()) {
                fields += Modifier.isStatic(field.getModifiers()) ? 0 : 1;
            }
            Check.due("more than twenty fields in " + each, fields > 20, false);
            for (Method method : each.getDeclaredMethods()) {
                Check.due("more than seven parameters of " + method, method.getParameterCount() > 7, false);
            }
        }
        for (Map.Entry<String, String> each : BODIES.entrySet()) {
            long lines = each.getValue().lines().count();
            Check.due("more than sixty lines in " + each.getKey(), lines > 60, false);
        }
    }

    /**
     * With this, rule 8 holds too: eight deep leaves at most seven open calls for each of the forty
     * levels that a walk or a reading can go down.
     */
    private static void depth() {
        for (Method method : CyclePatterns.class.getDeclaredMethods()) {
            if (Modifier.isPublic(method.getModifiers())) {
                List<String> deepest = deepestFrom(method.getName(), new HashSet<>());
                Check.due("more than eight deep: " + deepest, deepest.size() > 8, false);
            }
        }
        Check.due("the walk is seen", deepestFrom("advance", new HashSet<>()).contains("walk"), true);
    }

    /** The longest chain of calls that begins with a method; a call of one that is open ends it. */
    private static List<String> deepestFrom(String method, Set<String> open) {
        List<String> longest = new ArrayList<>();
        open.add(method);
        Matcher call = CALL.matcher(BODIES.getOrDefault(method, ""));
        while (call.find()) {
            String called = call.group(2);
            boolean isLibrary = called.matches(LIBRARY);
            String name = isLibrary ? called : called.substring(called.indexOf('.') + 1);
            if (call.group(1) == null && !open.contains(name) && (isLibrary || BODIES.containsKey(name))) {
                List<String> chain = deepestFrom(name, open);
                longest = chain.size() > longest.size() ? chain : longest;
            }
        }
        open.remove(method);
        longest.add(0, method);
        return longest;
    }
}
