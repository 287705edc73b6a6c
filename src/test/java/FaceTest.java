import java.io.IOException;
import java.lang.reflect.Constructor;
import java.lang.reflect.Field;
import java.lang.reflect.Method;
import java.lang.reflect.Modifier;
import java.nio.file.Files;
import java.nio.file.Path;
import java.util.Arrays;
import java.util.TreeSet;

/** The public face of the document, the constants, and the rules of LANGUAGE.md that can be seen from outside. */
public final class FaceTest {
    private static final Check CHECK = new Check();

    private static final String[] METHODS = {
        "int type(int)", "int clear()", "int read(int)", "int copy(int, int)", "int spread(int, int, int, int)",
        "int textOf(int, int)", "int unfolded(int, int)", "int setMeter(int, int)", "int setSwing(int, int)",
        "int events(int)", "long length(int, int)", "long onset(int, int, int)", "long lasts(int, int, int)",
        "long swung(int, int, int)", "int event(int, int, int)", "int bars(int)", "long bar(int, int, int)",
        "int wrongBar(int)", "int syncopation(int)", "int offGrid(int, int)", "int leastGrid(int)", "int times()",
        "long time(int, int)", "long cycle(int, int, int)", "int meets(int, int)", "int undo()", "long fingerprint()"};

    public static void main(String[] args) throws IOException {
        constants();
        members();
        privateMethods();
        nestedClasses();
        staticFields(RhythmBench.class);
        words();
        CHECK.end();
    }

    private static void constants() {
        CHECK.due("BAD", RhythmBench.BAD, -1);
        CHECK.due("STATE", RhythmBench.STATE, -2);
        CHECK.due("FULL", RhythmBench.FULL, -3);
        CHECK.due("NONE", RhythmBench.NONE, -9);
    }

    private static String signature(Method method) {
        String[] types = new String[method.getParameterCount()];
        for (int k = 0; k < types.length; k++) {
            types[k] = method.getParameterTypes()[k].getName();
        }
        return method.getReturnType().getName() + " " + method.getName() + "(" + String.join(", ", types) + ")";
    }

    private static void members() {
        TreeSet<String> visible = new TreeSet<>();
        for (Method method : RhythmBench.class.getDeclaredMethods()) {
            if (!Modifier.isPrivate(method.getModifiers())) {
                visible.add(signature(method));
            }
        }
        CHECK.dueText("the methods", visible.toString(), new TreeSet<>(Arrays.asList(METHODS)).toString());
        TreeSet<String> fields = new TreeSet<>();
        for (Field field : RhythmBench.class.getDeclaredFields()) {
            if (!Modifier.isPrivate(field.getModifiers())) {
                fields.add(field.toString());
            }
        }
        CHECK.dueText("the constants", fields.toString(), "[public static final int RhythmBench.BAD, "
            + "public static final int RhythmBench.FULL, public static final int RhythmBench.NONE, public static final int RhythmBench.STATE]");
        Constructor<?>[] constructors = RhythmBench.class.getDeclaredConstructors();
        CHECK.dueText("the constructors", Arrays.toString(constructors), "[public RhythmBench()]");
        CHECK.due("public and final", RhythmBench.class.getModifiers(), Modifier.PUBLIC | Modifier.FINAL);
    }

    private static TreeSet<String> publicNames() {
        TreeSet<String> names = new TreeSet<>();
        for (String method : METHODS) {
            names.add(method.substring(method.indexOf(' ') + 1, method.indexOf('(')));
        }
        return names;
    }

    private static void privateMethods() {
        TreeSet<String> names = publicNames();
        for (Method method : RhythmBench.class.getDeclaredMethods()) {
            if (Modifier.isPrivate(method.getModifiers())) {
                CHECK.due(method + " bears a public name", names.contains(method.getName()) ? 1 : 0, 0);
            }
        }
    }

    private static void nestedClasses() {
        TreeSet<String> names = publicNames();
        Class<?>[] nested = RhythmBench.class.getDeclaredClasses();
        CHECK.due("at most twelve classes", nested.length <= 11 ? 1 : 0, 1);
        for (Class<?> one : nested) {
            CHECK.due(one + " is static", Modifier.isStatic(one.getModifiers()) ? 1 : 0, 1);
            CHECK.due(one + " has few fields", Arrays.stream(one.getDeclaredFields())
                .filter(field -> !Modifier.isStatic(field.getModifiers())).count() <= 20 ? 1 : 0, 1);
            for (Method method : one.getDeclaredMethods()) {
                CHECK.due(method + " bears a public name", names.contains(method.getName()) ? 1 : 0, 0);
                CHECK.due(method + " has few parameters", method.getParameterCount() <= 7 ? 1 : 0, 1);
            }
            staticFields(one);
        }
    }

    /** Rule 5: static fields are final, and hold numbers, signs, texts or rows of numbers. */
    private static void staticFields(Class<?> one) {
        TreeSet<String> allowed = new TreeSet<>(Arrays.asList(
            "int", "long", "boolean", "char", "String", "int[]", "long[]", "char[]", "byte[]"));
        for (Field field : one.getDeclaredFields()) {
            if (Modifier.isStatic(field.getModifiers())) {
                CHECK.due(field + " is final", Modifier.isFinal(field.getModifiers()) ? 1 : 0, 1);
                CHECK.due(field + " may be static", allowed.contains(field.getType().getSimpleName()) ? 1 : 0, 1);
            }
        }
    }

    private static void words() throws IOException {
        String source = Files.readString(Path.of("src/main/java/RhythmBench.java"));
        String code = source.replaceAll("(?s)/\\*.*?\\*/", " ").replaceAll("//[^\n]*", " ");
        String[] refused = {"throw", "throws", "try", "catch", "synchronized", "assert", "import", "package", "protected",
            "Exact", "System", "Object", "native", "volatile", "transient", "var"};
        for (String word : refused) {
            CHECK.due("the word " + word, code.matches("(?s).*\\b" + word + "\\b.*") ? 1 : 0, 0);
        }
        CHECK.due("no lambda and no method reference", code.contains("->") || code.contains("::") ? 1 : 0, 0);
        CHECK.due("only ASCII", source.chars().allMatch(c -> c < 127) ? 1 : 0, 1);
    }
}
