import java.lang.reflect.Constructor;
import java.lang.reflect.Field;
import java.lang.reflect.Method;
import java.lang.reflect.Modifier;
import java.nio.charset.StandardCharsets;
import java.nio.file.Files;
import java.nio.file.Path;
import java.util.ArrayList;
import java.util.Arrays;
import java.util.List;
import java.util.Set;
import java.util.TreeSet;
import java.util.regex.Matcher;
import java.util.regex.Pattern;

/** Looks at the class itself: its face as the document has it, and the rules of LANGUAGE.md that can be seen. */
public final class FaceTest {
    private static final Pattern CLASS = Pattern.compile("public final class WarmRods \\{|}|");
    private static final Pattern CONSTANTS = Pattern.compile("public static final int (.*);");
    private static final Pattern CONSTRUCTOR = Pattern.compile("public WarmRods\\(\\);");
    private static final Pattern METHOD = Pattern.compile("public (int|long) (\\w+)\\((.*)\\);");

    /** What the document's face has: the methods as "int set(int,int)", the constants as "NO_SUCH = -1". */
    private static final Set<String> METHODS_DUE = new TreeSet<>();
    private static final Set<String> CONSTANTS_DUE = new TreeSet<>();

    // Words that no file within the rules holds: 1 (no package), 2 (method references), 3 and 4 (the library), 5, 6, 10
    // and 13. A comment that needs such a word finds another one.
    private static final List<String> RULED_OUT = List.of("package", "finally", "synchronized", "assert", "::", "\\w+Exact",
        "static \\{", "\\+ \"", "\" \\+", "Math\\.(sqrt|floor|ceil|round|pow|random)", "System\\.(?!arraycopy)", "Double",
        "Float", "Thread", "hashCode");

    private static int wrong = 0;

    private static void due(boolean holds, String what) {
        if (!holds) {
            wrong++;
            System.out.println("does not hold: " + what);
        }
    }

    public static void main(String[] args) throws Exception {
        readFace(Document.read().textOf("The public face"));
        face();
        for (Class<?> part : parts()) {
            part(part);
        }
        source(Files.readString(Path.of("src/main/java/WarmRods.java"), StandardCharsets.ISO_8859_1));
        System.out.println(wrong == 0 ? "the face is as the document has it" : wrong + " rules do not hold");
        if (wrong != 0) {
            System.exit(1);
        }
    }

    private static List<Class<?>> parts() {
        List<Class<?>> parts = new ArrayList<>(Arrays.asList(WarmRods.class.getDeclaredClasses()));
        parts.add(WarmRods.class);
        return parts;
    }

    private static void readFace(String text) {
        for (String line : text.split("\n")) {
            String shown = line.strip();
            Matcher constants = CONSTANTS.matcher(shown);
            Matcher method = METHOD.matcher(shown);
            if (constants.matches()) {
                CONSTANTS_DUE.addAll(List.of(constants.group(1).split(", ")));
            } else if (method.matches()) {
                String parameters = method.group(3).replaceAll("(int|long) \\w+", "$1").replace(", ", ",");
                METHODS_DUE.add(method.group(1) + " " + method.group(2) + "(" + parameters + ")");
            } else {
                due(CLASS.matcher(shown).matches() || CONSTRUCTOR.matcher(shown).matches(), "a line of the face: " + line);
            }
        }
        due(METHODS_DUE.size() == 20, "20 methods in the document, not " + METHODS_DUE.size());
        due(CONSTANTS_DUE.size() == 10, "10 constants in the document, not " + CONSTANTS_DUE.size());
    }

    private static void face() throws IllegalAccessException {
        int shown = Modifier.PUBLIC | Modifier.PROTECTED;
        due((WarmRods.class.getModifiers() & (Modifier.PUBLIC | Modifier.FINAL)) == (Modifier.PUBLIC | Modifier.FINAL),
            "public and final");
        due(WarmRods.class.getPackageName().isEmpty(), "no package");
        Constructor<?>[] constructors = WarmRods.class.getDeclaredConstructors();
        due(constructors.length == 1 && constructors[0].getParameterCount() == 0
            && (constructors[0].getModifiers() & shown) == Modifier.PUBLIC, "one public constructor");
        Set<String> methods = new TreeSet<>();
        for (Method method : WarmRods.class.getDeclaredMethods()) {
            if (!Modifier.isPrivate(method.getModifiers()) && !method.isSynthetic()) {
                due((method.getModifiers() & ~Modifier.FINAL) == Modifier.PUBLIC, "public, and no more: " + method);
                due(method.getExceptionTypes().length == 0, "throws nothing: " + method);
                methods.add(method.getReturnType() + " " + method.getName() + Arrays.toString(method.getParameterTypes())
                    .replace("[", "(").replace("]", ")").replace(" ", ""));
            }
        }
        due(methods.equals(METHODS_DUE), "the methods of the face, not " + methods);
        Set<String> constants = new TreeSet<>();
        for (Field field : WarmRods.class.getDeclaredFields()) {
            if (!Modifier.isPrivate(field.getModifiers())) {
                due(field.getModifiers() == (Modifier.PUBLIC | Modifier.STATIC | Modifier.FINAL), "constant: " + field);
                due(field.getType() == int.class, "int: " + field);
                constants.add(field.getName() + " = " + field.getInt(null));
            }
        }
        due(constants.equals(CONSTANTS_DUE), "the constants of the face, not " + constants);
        due(WarmRods.class.getDeclaredClasses().length <= 13, "some twelve classes");
    }

    private static void part(Class<?> part) {
        int fields = 0;
        for (Field field : part.getDeclaredFields()) {
            boolean isStatic = Modifier.isStatic(field.getModifiers());
            due(!isStatic || Modifier.isFinal(field.getModifiers()), "final: " + field);
            fields += isStatic ? 0 : 1;
        }
        due(fields <= 24, "some twenty fields: " + part);
        boolean isInside = part != WarmRods.class;
        due(!isInside || Modifier.isStatic(part.getModifiers()), "static: " + part);
        due(!isInside || (part.getModifiers() & (Modifier.PUBLIC | Modifier.PROTECTED)) == 0, "not shown: " + part);
        for (Method method : part.getDeclaredMethods()) {
            due(method.getParameterCount() <= 7, "seven parameters: " + method);
            boolean isOwn = isInside || Modifier.isPrivate(method.getModifiers());
            due(!isOwn || METHODS_DUE.stream().noneMatch(m -> m.contains(" " + method.getName() + "(")),
                "a name of its own: " + method);
        }
    }

    private static void source(String source) {
        for (String word : RULED_OUT) {
            boolean isWord = Character.isLetter(word.charAt(word.length() - 1));
            String whole = isWord ? "\\b" + word + "\\b" : word;
            due(!Pattern.compile(whole).matcher(source).find(), "without " + word);
        }
        due(source.chars().allMatch(c -> c == '\n' || c >= 32 && c < 127), "plain characters alone");
    }
}
