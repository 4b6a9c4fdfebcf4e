import java.io.IOException;
import java.lang.reflect.Constructor;
import java.lang.reflect.Field;
import java.lang.reflect.Method;
import java.lang.reflect.Modifier;
import java.nio.file.Files;
import java.nio.file.Path;
import java.util.Set;
import java.util.TreeSet;
import java.util.regex.Pattern;

/** The public face is the document's, and the source keeps to those rules of LANGUAGE.md that words alone can tell. */
public final class FaceTest {
    private static final Check CHECK = new Check("FaceTest");
    private static final String[] FACE = {
        "boolean addSection(int, int, int, int)", "boolean admissible()", "boolean removeTask(int)",
        "int addTask(int, int, int)", "int count(int)", "int deadlineOf(int)", "int effective(int)",
        "int miss(int, int)", "int missCount()", "int owner(int)", "int ran(int)", "int remaining(int)", "int run(int)",
        "int task(int, int)", "int tick()", "int waiters(int)", "int waitsFor(int)"};
    private static final String[] RULED_OUT = {
        "throw", "throws", "try", "catch", "synchronized", "assert", "package", "protected", "volatile", "native", "goto",
        "->", "::", "System\\.out", "Random", "Thread", "nanoTime", "currentTimeMillis", "[a-z]Exact"};

    public static void main(String[] args) throws IOException {
        methodsAreTheDocuments();
        constructorAndConstantAreTheDocuments();
        classesInsideAreStatic();
        sourceHasNothingRuledOut();
        CHECK.end();
    }

    private static void methodsAreTheDocuments() {
        Set<String> open = new TreeSet<>();
        Set<String> openNames = new TreeSet<>();
        for (Method method : DeadlineBench.class.getDeclaredMethods()) {
            if (!Modifier.isPrivate(method.getModifiers())) {
                CHECK.isTrue(method + " is public, not static",
                    Modifier.isPublic(method.getModifiers()) && !Modifier.isStatic(method.getModifiers()));
                open.add(told(method));
                openNames.add(method.getName());
            }
        }
        CHECK.isTrue("the methods " + open, open.equals(new TreeSet<>(Set.of(FACE))));
        for (Method method : DeadlineBench.class.getDeclaredMethods()) {
            if (Modifier.isPrivate(method.getModifiers())) {
                CHECK.isFalse(method + " bears the name of a public one", openNames.contains(method.getName()));
            }
        }
    }

    private static String told(Method method) {
        StringBuilder text = new StringBuilder(method.getReturnType() + " " + method.getName() + "(");
        for (int i = 0; i < method.getParameterCount(); i++) {
            text.append(i == 0 ? "" : ", ").append(method.getParameterTypes()[i]);
        }
        return text.append(")").toString();
    }

    private static void constructorAndConstantAreTheDocuments() {
        CHECK.isTrue("the class is public and final",
            Modifier.isPublic(DeadlineBench.class.getModifiers()) && Modifier.isFinal(DeadlineBench.class.getModifiers()));
        Constructor<?>[] constructors = DeadlineBench.class.getDeclaredConstructors();
        CHECK.same("constructors", constructors.length, 1);
        CHECK.same("its parameters", constructors[0].getParameterCount(), 5);
        CHECK.isTrue("it is public", Modifier.isPublic(constructors[0].getModifiers()));
        for (Field field : DeadlineBench.class.getDeclaredFields()) {
            boolean open = !Modifier.isPrivate(field.getModifiers());
            CHECK.same(field + " is open", open ? 1 : 0, field.getName().equals("NONE") ? 1 : 0);
            CHECK.isTrue(field + " is no static state",
                !Modifier.isStatic(field.getModifiers()) || Modifier.isFinal(field.getModifiers()));
        }
    }

    private static void classesInsideAreStatic() {
        for (Class<?> inside : DeadlineBench.class.getDeclaredClasses()) {
            CHECK.isTrue(inside + " is static", Modifier.isStatic(inside.getModifiers()));
            CHECK.isFalse(inside + " is public", Modifier.isPublic(inside.getModifiers()));
        }
    }

    private static void sourceHasNothingRuledOut() throws IOException {
        String source = Files.readString(Path.of("src/main/java/DeadlineBench.java"));
        String code = source.replaceAll("(?s)/\\*.*?\\*/", " ").replaceAll("//[^\n]*", " ");
        for (String word : RULED_OUT) {
            String pattern = Character.isLetter(word.charAt(0)) ? "\\b" + word + "\\b" : word;
            CHECK.isFalse("the source has " + word, Pattern.compile(pattern).matcher(code).find());
        }
        int imports = code.split("\\bimport\\b", -1).length - 1;
        CHECK.same("imports", imports, 1);
        CHECK.isTrue("it is java.util.Arrays", code.contains("import java.util.Arrays;"));
    }
}
