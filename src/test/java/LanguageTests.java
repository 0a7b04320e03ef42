import java.io.IOException;
import java.lang.reflect.Constructor;
import java.lang.reflect.Field;
import java.lang.reflect.Method;
import java.lang.reflect.Modifier;
import java.nio.file.Files;
import java.nio.file.Path;
import java.util.Arrays;
import java.util.HashMap;
import java.util.HashSet;
import java.util.List;
import java.util.Map;
import java.util.Set;
import java.util.TreeSet;
import java.util.regex.Matcher;
import java.util.regex.Pattern;

/** The face of the class, and those rules of LANGUAGE.md that can be looked up in its file. */
public final class LanguageTests {
    private static final String SOURCE = "src/main/java/AdventStreets.java";
    private static final String FACE = "row:3 set:3 copy:5 drop:1 feed:1 street:0 fault:0 times:1 open:1 press:1"
            + " glue:2 trade:2 sight:1 undo:0 window:2 opens:1 ahead:3 spots:2 off:1 shut:3 trades:3 along:2"
            + " alike:1 guess:1 fits:5 wind:4 drawn:3 image:1 restore:1 kind:1 as:2 ask:2 trace:1 count:1 status:0";
    private static final String[] BARRED = {"throw", "throws", "try", "catch", "finally", "synchronized", "assert",
        "import(?! java\\.util\\.Arrays;)", "package", "protected", "System(?!\\.arraycopy)", "Math\\.random",
        "Thread", "Object", "var", "volatile", "native", "transient", "hashCode", "equals", "toString",
        "\\w*Exact", "double", "float"};

    private static final Pattern METHOD = Pattern.compile("    (?:    )?(?:[\\w\\[\\]]+ )+(\\w+)\\(.*\\) \\{");
    private static final Pattern CALL = Pattern.compile("\\b([a-z]\\w*)\\(");
    /** The one method that calls itself; it carries its depth. */
    private static final String RECURSION = "answer";

    private static final Check CHECK = new Check("LanguageTests");

    public static void main(String[] args) throws IOException {
        face();
        members(AdventStreets.class);
        for (Class<?> inner : AdventStreets.class.getDeclaredClasses()) {
            CHECK.holds(inner.getName() + " is static and private",
                    Modifier.isStatic(inner.getModifiers()) && Modifier.isPrivate(inner.getModifiers()));
            members(inner);
        }
        CHECK.holds("at most twelve classes", AdventStreets.class.getDeclaredClasses().length <= 11);
        source();
        depths();
        CHECK.end();
    }

    private static void face() {
        Class<?> type = AdventStreets.class;
        CHECK.holds("public and final", Modifier.isPublic(type.getModifiers()) && Modifier.isFinal(type.getModifiers()));
        Set<String> due = new TreeSet<>(Arrays.asList(FACE.split(" ")));
        Set<String> seen = new TreeSet<>();
        for (Method method : type.getDeclaredMethods()) {
            if (Modifier.isPrivate(method.getModifiers())) {
                continue;
            }
            seen.add(method.getName() + ":" + method.getParameterCount());
            Class<?> answer = method.getName().equals("wind") ? long.class : int.class;
            CHECK.holds(method + " is public and not static", method.getModifiers() == Modifier.PUBLIC);
            CHECK.holds(method + " answers " + answer, method.getReturnType() == answer);
            CHECK.holds(method + " takes ints",
                    Arrays.stream(method.getParameterTypes()).allMatch(each -> each == int.class));
        }
        CHECK.holds("the face is " + due + ", not " + seen, due.equals(seen));
        Constructor<?>[] constructors = type.getDeclaredConstructors();
        CHECK.holds("one public constructor", constructors.length == 1
                && constructors[0].getModifiers() == Modifier.PUBLIC && constructors[0].getParameterCount() == 0);
        Set<String> constants = new TreeSet<>();
        for (Field field : type.getDeclaredFields()) {
            if (!Modifier.isPrivate(field.getModifiers())) {
                constants.add(field.getName());
            }
        }
        CHECK.holds("the constants", constants.equals(Set.of("NONE", "BAD", "STATE", "FULL")));
    }

    private static void members(Class<?> type) {
        int fields = 0;
        for (Field field : type.getDeclaredFields()) {
            boolean isStatic = Modifier.isStatic(field.getModifiers());
            CHECK.holds(field + " is final if static", !isStatic || Modifier.isFinal(field.getModifiers()));
            fields += isStatic ? 0 : 1;
        }
        CHECK.holds(type + " has at most twenty fields", fields <= 20);
        for (Method method : type.getDeclaredMethods()) {
            boolean isFace = FACE.matches("(.* )?" + method.getName() + ":.*");
            boolean isPublic = type == AdventStreets.class && Modifier.isPublic(method.getModifiers());
            CHECK.holds(method + " does not bear a public one's name", !isFace || isPublic);
            CHECK.holds(method + " takes at most seven", method.getParameterCount() <= 7);
        }
    }

    private static void source() throws IOException {
        List<String> lines = Files.readAllLines(Path.of(SOURCE));
        Pattern barred = Pattern.compile("\\b(" + String.join("|", BARRED) + ")\\b|->|::|\"");
        int begin = 0;
        for (int i = 0; i < lines.size(); i++) {
            String line = lines.get(i);
            String where = SOURCE + ":" + (i + 1);
            String code = line.replaceAll("//.*|^\\s*/?\\*.*", "");
            CHECK.holds(where + " keeps to the language: " + line, !barred.matcher(code).find());
            CHECK.holds(where + " makes nothing in a call: " + line, !code.contains("new ")
                    || code.contains("private final") || code.matches("\\s+(images\\[k\\]|ring\\[i\\]) = new Street\\(\\);"));
            CHECK.holds(where + " is ASCII", line.chars().allMatch(c -> c >= 32 && c < 127));
            if (code.matches("    (    )?\\S.*\\{")) {
                begin = i;
            }
            if (code.matches("    (    )?}") && !lines.get(begin).contains("class")) {
                CHECK.holds(where + " ends a short method", i - begin < 60);
            }
        }
    }

    /** Calls that are no recursion go at most eight deep, methods of one name being taken as one. */
    private static void depths() throws IOException {
        Map<String, Set<String>> calls = calls();
        for (String name : calls.keySet()) {
            int depth = depth(calls, name, new HashSet<>());
            CHECK.holds("the calls from " + name + " go at most eight deep, not " + depth, depth <= 8);
        }
        CHECK.holds("the methods were found", calls.keySet().containsAll(Set.of("trades", "turn", "answer")));
    }

    private static Map<String, Set<String>> calls() throws IOException {
        Map<String, Set<String>> calls = new HashMap<>();
        String begun = "";
        for (String line : Files.readAllLines(Path.of(SOURCE))) {
            String code = line.replaceAll("//.*|^\\s*/?\\*.*", "");
            Matcher head = METHOD.matcher(code);
            if (head.matches()) {
                begun = head.group(1);
                calls.putIfAbsent(begun, new TreeSet<>());
                continue;
            }
            for (Matcher call = CALL.matcher(code); call.find() && !begun.isEmpty();) {
                calls.get(begun).add(call.group(1));
            }
        }
        calls.values().forEach(called -> called.retainAll(calls.keySet()));
        calls.forEach((name, called) -> called.remove(RECURSION.equals(name) ? name : ""));
        return calls;
    }

    /** How deep the calls from a method go, it too; far too deep if they come round to it. */
    private static int depth(Map<String, Set<String>> calls, String name, Set<String> above) {
        if (!above.add(name)) {
            return 1000;
        }
        int deepest = 0;
        for (String called : calls.get(name)) {
            deepest = Math.max(deepest, depth(calls, called, above));
        }
        above.remove(name);
        return deepest + 1;
    }
}
