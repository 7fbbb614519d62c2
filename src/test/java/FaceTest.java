import java.lang.reflect.Constructor;
import java.lang.reflect.Field;
import java.lang.reflect.Method;
import java.lang.reflect.Modifier;
import java.nio.charset.StandardCharsets;
import java.nio.file.Files;
import java.nio.file.Path;
import java.util.ArrayList;
import java.util.Arrays;
import java.util.List;
import java.util.Set;
import java.util.TreeSet;
import java.util.regex.Pattern;

/** Looks at the class itself: its face as the document has it, and the rules of LANGUAGE.md that can be seen. */
public final class FaceTest {
    private static final List<String> METHODS = List.of("int set(int,int)", "int weight(int)", "int pass(int,int,int,int)",
        "int zero()", "int hour(int,int)", "int count(int)", "long meanRate()", "int ofLog(int)", "int rate(int,int)",
        "int bestWeights(int,int,int)", "int offIn(int,int)", "int replay()", "int coolest(int)", "int put(long)",
        "int wipe()", "int fault()", "int carryOut()", "int undo()", "int save(int)", "int restore(int)");
    private static final List<String> CONSTANTS = List.of("NO_SUCH", "BAD_VALUE", "BAD_TEXT", "TOO_MANY", "NOT_POSSIBLE",
        "NONE", "ROD", "AIR", "BASE", "LIMIT");
    // Words that no file within the rules holds: 1 (no package), 2 (method references), 3 and 4 (the library), 5, 6, 10
    // and 13. A comment that needs such a word finds another one.
    private static final List<String> RULED_OUT = List.of("package", "finally", "synchronized", "assert", "::", "\\w+Exact",
        "static \\{", "\\+ \"", "\" \\+", "Math\\.(sqrt|floor|ceil|round|pow|random)", "System\\.(?!arraycopy)", "Double",
        "Float", "Thread", "hashCode");

    private static int wrong = 0;

    private static void due(boolean holds, String what) {
        if (!holds) {
            wrong++;
            System.out.println("does not hold: " + what);
        }
    }

    public static void main(String[] args) throws Exception {
        face();
        for (Class<?> part : parts()) {
            part(part);
        }
        source(Files.readString(Path.of("src/main/java/WarmRods.java"), StandardCharsets.ISO_8859_1));
        System.out.println(wrong == 0 ? "the face is as the document has it" : wrong + " rules do not hold");
        if (wrong != 0) {
            System.exit(1);
        }
    }

    private static List<Class<?>> parts() {
        List<Class<?>> parts = new ArrayList<>(Arrays.asList(WarmRods.class.getDeclaredClasses()));
        parts.add(WarmRods.class);
        return parts;
    }

    private static void face() {
        int shown = Modifier.PUBLIC | Modifier.PROTECTED;
        due((WarmRods.class.getModifiers() & (Modifier.PUBLIC | Modifier.FINAL)) == (Modifier.PUBLIC | Modifier.FINAL),
            "public and final");
        due(WarmRods.class.getPackageName().isEmpty(), "no package");
        Constructor<?>[] constructors = WarmRods.class.getDeclaredConstructors();
        due(constructors.length == 1 && constructors[0].getParameterCount() == 0
            && (constructors[0].getModifiers() & shown) == Modifier.PUBLIC, "one public constructor");
        Set<String> methods = new TreeSet<>();
        for (Method method : WarmRods.class.getDeclaredMethods()) {
            if (!Modifier.isPrivate(method.getModifiers()) && !method.isSynthetic()) {
                due(Modifier.isPublic(method.getModifiers()), "public: " + method);
                methods.add(method.getReturnType() + " " + method.getName() + Arrays.toString(method.getParameterTypes())
                    .replace("[", "(").replace("]", ")").replace(" ", ""));
            }
        }
        due(methods.equals(new TreeSet<>(METHODS)), "the methods of the face, not " + methods);
        Set<String> constants = new TreeSet<>();
        for (Field field : WarmRods.class.getDeclaredFields()) {
            if (!Modifier.isPrivate(field.getModifiers())) {
                due(field.getModifiers() == (Modifier.PUBLIC | Modifier.STATIC | Modifier.FINAL), "constant: " + field);
                due(field.getType() == int.class, "int: " + field);
                constants.add(field.getName());
            }
        }
        due(constants.equals(new TreeSet<>(CONSTANTS)), "the constants of the face, not " + constants);
        due(WarmRods.class.getDeclaredClasses().length <= 13, "some twelve classes");
    }

    private static void part(Class<?> part) {
        int fields = 0;
        for (Field field : part.getDeclaredFields()) {
            boolean isStatic = Modifier.isStatic(field.getModifiers());
            due(!isStatic || Modifier.isFinal(field.getModifiers()), "final: " + field);
            fields += isStatic ? 0 : 1;
        }
        due(fields <= 24, "some twenty fields: " + part);
        boolean isInside = part != WarmRods.class;
        due(!isInside || Modifier.isStatic(part.getModifiers()), "static: " + part);
        due(!isInside || (part.getModifiers() & (Modifier.PUBLIC | Modifier.PROTECTED)) == 0, "not shown: " + part);
        for (Method method : part.getDeclaredMethods()) {
            due(method.getParameterCount() <= 7, "seven parameters: " + method);
            boolean isOwn = isInside || Modifier.isPrivate(method.getModifiers());
            due(!isOwn || METHODS.stream().noneMatch(m -> m.contains(" " + method.getName() + "(")),
                "a name of its own: " + method);
        }
    }

    private static void source(String source) {
        for (String word : RULED_OUT) {
            boolean isWord = Character.isLetter(word.charAt(word.length() - 1));
            String whole = isWord ? "\\b" + word + "\\b" : word;
            due(!Pattern.compile(whole).matcher(source).find(), "without " + word);
        }
        due(source.chars().allMatch(c -> c == '\n' || c >= 32 && c < 127), "plain characters alone");
    }
}
