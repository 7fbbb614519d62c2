import java.net.URI;
import java.net.URL;
import java.net.URLClassLoader;
import java.nio.charset.StandardCharsets;
import java.nio.file.Files;
import java.nio.file.Path;
import java.util.ArrayList;
import java.util.List;
import java.util.regex.Matcher;
import java.util.regex.Pattern;
import javax.tools.JavaCompiler;
import javax.tools.JavaFileObject;
import javax.tools.SimpleJavaFileObject;
import javax.tools.ToolProvider;

/** Holds README.md against the class (what its calls answer) and against the document (the codes in its table). */
public final class ReadmeTest {
    private static final Path README = Path.of("README.md");
    private static final Pattern CALL = Pattern.compile("(.+);\\s+// (-?[0-9.]+|[A-Z_]+)(:.*)?");
    private static final Pattern NEW_NAME = Pattern.compile("(?:WarmRods|int|long|double) (\\w+) = .+");
    private static final Pattern ROW = Pattern.compile("\\| `(\\w+)\\(([\\w, ]*)\\)` \\|.*\\|(.*)\\|");
    private static final Pattern CODE_ROW = Pattern.compile("\\| `(\\w+)` \\| (-\\d) \\|.*");
    private static final Pattern CODE = Pattern.compile("\\b(NO_SUCH|BAD_VALUE|BAD_TEXT|TOO_MANY|NOT_POSSIBLE|NONE)\\b");

    private static int wrong = 0;
    private static int compared = 0;

    public static void main(String[] args) throws Exception {
        List<String> lines = Files.readAllLines(README, StandardCharsets.UTF_8);
        same("its title is", lines.subList(0, 1), List.of("# " + WarmRods.class.getSimpleName()));
        carryOutExamples(lines);
        table(lines);
        System.out.println(wrong == 0 ? "all " + compared + " answers in README.md are as due" : wrong + " things are amiss");
        if (wrong != 0 || compared == 0) {
            System.exit(1);
        }
    }

    private static void fail(String what) {
        wrong++;
        System.out.println("README.md: " + what);
    }

    /** The examples call it for each answer that is shown. */
    public static void due(String call, double got, double want) {
        compared++;
        if (got != want) {
            fail(call + " answers " + got + ", it shows " + want);
        }
    }

    // ---- the examples

    private static void carryOutExamples(List<String> lines) throws Exception {
        StringBuilder helpers = new StringBuilder();
        StringBuilder steps = new StringBuilder();
        for (List<String> block : blocksOf(lines)) {
            boolean isHelper = block.get(0).startsWith("static ");
            for (String line : block) {
                (isHelper ? helpers : steps).append(isHelper ? line : stepOf(line)).append('\n');
            }
        }
        String source = "public final class Examples {\n" + helpers + "public static void run() {\n" + steps + "}\n}\n";
        Path built = Files.createTempDirectory("readme");
        if (!compiled(source, built)) {
            fail("its examples can't be compiled");
            return;
        }
        try (URLClassLoader loader = new URLClassLoader(new URL[] {built.toUri().toURL()})) {
            loader.loadClass("Examples").getMethod("run").invoke(null);
        }
        Files.delete(built.resolve("Examples.class"));
        Files.delete(built);
    }

    private static List<List<String>> blocksOf(List<String> lines) {
        List<List<String>> blocks = new ArrayList<>();
        List<String> block = null;
        for (String line : lines) {
            if (line.equals("```java")) {
                block = new ArrayList<>();
            } else if (line.equals("```") && block != null) {
                blocks.add(block);
                block = null;
            } else if (block != null) {
                block.add(line);
            }
        }
        return blocks;
    }

    /** What a line of an example is in the class that is made of them. */
    private static String stepOf(String line) {
        Matcher call = CALL.matcher(line);
        if (!call.matches()) {
            return line;
        }
        Matcher named = NEW_NAME.matcher(call.group(1));
        String due = Character.isLetter(call.group(2).charAt(0)) ? "WarmRods." + call.group(2) : call.group(2);
        String told = "\"" + call.group(1).replace("\"", "'") + "\"";
        return named.matches() ? call.group(1) + "; ReadmeTest.due(" + told + ", " + named.group(1) + ", " + due + ");"
            : "ReadmeTest.due(" + told + ", " + call.group(1) + ", " + due + ");";
    }

    private static boolean compiled(String source, Path built) {
        JavaCompiler compiler = ToolProvider.getSystemJavaCompiler();
        if (compiler == null) {
            fail("this java has no compiler");
            return false;
        }
        JavaFileObject file = new SimpleJavaFileObject(URI.create("string:///Examples.java"), JavaFileObject.Kind.SOURCE) {
            @Override
            public CharSequence getCharContent(boolean ignoreErrors) {
                return source;
            }
        };
        List<String> options = List.of("-d", built.toString(), "-cp", System.getProperty("java.class.path"), "-proc:none");
        return compiler.getTask(null, null, null, options, null, List.of(file)).call();
    }

    // ---- the tables

    private static void table(List<String> lines) throws Exception {
        Document document = Document.read();
        List<String> shown = new ArrayList<>();
        List<String> codes = new ArrayList<>();
        for (String line : lines) {
            Matcher row = ROW.matcher(line);
            Matcher codeRow = CODE_ROW.matcher(line);
            if (row.matches()) {
                shown.add(row.group(1) + "(" + row.group(2) + ") " + codesIn(row.group(3)));
            } else if (codeRow.matches()) {
                codes.add(codeRow.group(1) + " = " + codeRow.group(2));
            }
        }
        List<String> due = new ArrayList<>();
        for (String place : document.names()) {
            Matcher signature = Pattern.compile("`\\w+ (\\w+)\\((.*?)\\)`: ").matcher(document.textOf(place));
            if (place.startsWith("Promise ") && signature.find()) {
                String parameters = signature.group(2).replaceAll("\\w+ (\\w+)", "$1");
                due.add(signature.group(1) + "(" + parameters + ") " + codesIn(document.textOf(place)));
            }
        }
        same("the calls are", shown, due);
        String first = document.textOf("The public face").lines().filter(l -> l.contains("NO_SUCH")).findFirst().orElse("");
        same("the codes are", codes, List.of(first.replaceAll(".* int |;.*", "").split(", ")));
    }

    private static List<String> codesIn(String text) {
        List<String> codes = new ArrayList<>();
        Matcher code = CODE.matcher(text);
        while (code.find()) {
            if (!codes.contains(code.group(1))) {
                codes.add(code.group(1));
            }
        }
        return codes;
    }

    private static void same(String what, List<String> shown, List<String> due) {
        compared++;
        if (!shown.equals(due)) {
            fail(what + " " + shown + ", due is " + due);
        }
    }
}
