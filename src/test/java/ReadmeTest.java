import java.io.IOException;
import java.lang.reflect.Method;
import java.lang.reflect.Modifier;
import java.nio.file.Files;
import java.nio.file.Path;
import java.util.HashMap;
import java.util.List;
import java.util.Map;
import java.util.Set;
import java.util.TreeSet;
import java.util.regex.Matcher;
import java.util.regex.Pattern;

/**
 * The calls that README.md shows are made, line by line as they stand there, and must answer what it names. It must tell
 * of each call of the document's face, and show each answer that is none.
 */
public final class ReadmeTest {
    private static final Check CHECK = new Check("ReadmeTest");
    private static final int MOST_CALLS = 512;
    private static final Pattern MAKING = Pattern.compile("DeadlineBench bench = new DeadlineBench\\(([^()]*)\\);");
    private static final Pattern CALL = Pattern.compile(
        "(?:(?<type>int|boolean) (?<name>\\w+) = )?bench\\.(?<method>\\w+)\\((?<arguments>[^()]*)\\);"
            + " +// (?<answer>-?\\d+|true|false|NONE)(?:: .+)?");
    private static final Pattern FACE = Pattern.compile(" {4}public ((?:int|boolean) \\w+\\([^()]*\\));");
    /** What README.md must show at least, beside one call of each method. */
    private static final Set<String> TO_BE_SHOWN = Set.of(
        "addTask -2", "addTask NONE", "addSection true", "addSection false", "removeTask true", "removeTask false",
        "admissible true", "admissible false", "tick 0", "tick NONE", "tick -2", "run 0", "run NONE", "ran 0", "ran NONE",
        "ran -2", "remaining 0", "deadlineOf NONE", "effective NONE", "waitsFor 0", "waitsFor NONE", "owner 0",
        "owner NONE", "waiters 0", "missCount 0", "miss NONE", "task 0", "task NONE", "count 0", "count NONE");

    private final Map<String, Method> methods = new HashMap<>();
    private final Map<String, Integer> variables = new HashMap<>();
    private final Set<String> answersShown = new TreeSet<>();
    private DeadlineBench bench;
    private int calls;

    public static void main(String[] args) throws IOException, ReflectiveOperationException {
        List<String> lines = Files.readAllLines(Path.of("README.md"));
        ReadmeTest test = new ReadmeTest();
        test.makeTheCalls(lines);
        test.allAreShown();
        test.facesCallsAreTold(lines);
        CHECK.end();
    }

    private ReadmeTest() {
        for (Method method : DeadlineBench.class.getDeclaredMethods()) {
            if (Modifier.isPublic(method.getModifiers())) {
                methods.put(method.getName(), method);
            }
        }
    }

    private void makeTheCalls(List<String> lines) throws ReflectiveOperationException {
        boolean inJava = false;
        for (int i = 0; i < lines.size(); i++) {
            String line = lines.get(i);
            if (line.startsWith("```")) {
                inJava = line.equals("```java");
                bench = null;
                variables.clear();
            } else if (inJava && !line.isEmpty()) {
                follow("README.md, line " + (i + 1) + ", " + line.strip(), line);
            }
        }
    }

    private void follow(String told, String line) throws ReflectiveOperationException {
        Matcher making = MAKING.matcher(line);
        Matcher call = CALL.matcher(line);
        if (making.matches()) {
            Object[] sizes = arguments(making.group(1));
            bench = (DeadlineBench) DeadlineBench.class.getDeclaredConstructors()[0].newInstance(sizes);
            calls = 0;
        } else if (call.matches() && bench != null && methods.containsKey(call.group("method"))) {
            makeTheCall(told, call);
        } else {
            CHECK.isTrue(told + ": a call of an object, with its answer", false);
        }
    }

    private void makeTheCall(String told, Matcher call) throws ReflectiveOperationException {
        Method method = methods.get(call.group("method"));
        String named = call.group("answer");
        boolean isBoolean = method.getReturnType() == boolean.class;
        CHECK.same(told + ": the kind of the answer", isBoolean ? 1 : 0, named.matches("true|false") ? 1 : 0);
        int got = number(method.invoke(bench, arguments(call.group("arguments"))).toString());
        CHECK.same(told, got, number(named));
        calls++;
        CHECK.isTrue(told + ": at most " + MOST_CALLS + " calls", calls <= MOST_CALLS);
        if (call.group("name") != null) {
            CHECK.isTrue(told + ": the type", call.group("type").equals(method.getReturnType().getName()));
            variables.put(call.group("name"), got);
        }
        answersShown.add(method.getName() + " " + named);
    }

    private Object[] arguments(String text) {
        String[] parts = text.isEmpty() ? new String[0] : text.split(", ");
        Object[] values = new Object[parts.length];
        for (int i = 0; i < parts.length; i++) {
            values[i] = variables.containsKey(parts[i]) ? variables.get(parts[i]) : number(parts[i]);
        }
        return values;
    }

    private static int number(String text) {
        return switch (text) {
            case "NONE" -> DeadlineBench.NONE;
            case "true" -> 1;
            case "false" -> 0;
            default -> Integer.parseInt(text);
        };
    }

    private void allAreShown() {
        for (String answer : TO_BE_SHOWN) {
            CHECK.isTrue("README.md shows " + answer, answersShown.contains(answer));
        }
        for (String name : methods.keySet()) {
            CHECK.isTrue("README.md shows " + name, answersShown.stream().anyMatch(shown -> shown.startsWith(name + " ")));
        }
    }

    private void facesCallsAreTold(List<String> readme) throws IOException {
        int told = 0;
        for (String line : Files.readAllLines(Path.of("../shared/DOC.md"))) {
            Matcher face = FACE.matcher(line);
            if (face.matches()) {
                told++;
                String row = "| `" + face.group(1) + "` | ";
                CHECK.isTrue("README.md has the row " + row, readme.stream().anyMatch(shown -> shown.startsWith(row)));
            }
        }
        CHECK.same("calls of the document's face", told, methods.size());
    }
}
