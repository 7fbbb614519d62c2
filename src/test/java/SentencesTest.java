import java.lang.reflect.Method;
import java.util.Arrays;
import java.util.LinkedHashMap;
import java.util.List;
import java.util.Map;

/**
 * Holds the tests against the document: each of its sentences is named by the Says of a test, or is told below to
 * promise nothing; and each Says has words that stand there.
 */
public final class SentencesTest {
    private static final List<Class<?>> TESTS = List.of(EdgesOfTerms.class, EdgesOfChanges.class, EdgesOfWhatThereIs.class,
        EdgesOfWhatIf.class, EdgesOfTexts.class, EdgesOfUndo.class, EdgesOfRefusals.class);

    // Which place, and the words there that no answer could break.
    private static final String[][] PROMISES_NOTHING = {
        {"What it is", "A pendulum clock that is set by radio seconds: beats by a gate, a rod that grows with heat, air that slows it "
            + "with height, weights that nudge its rate, beats and seconds that drift apart, corrections by rule, days by hours of "
            + "heat and air, rates told by hours, what a weight would do, the weights that suit an hour best, how long until the "
            + "clock is off, notes that agree, days that are read from texts, undo, and saved states."},
        {"What it is", "what later calls answer is free."},
        {"Not promised", "How the state is held inside the object is free, as are the speed of each call, the text of toString and the "
            + "behaviour of equals and hashCode. Use of one object from several threads at once is not promised to be safe. Nothing "
            + "is promised beyond the answers and state changes described above, and nothing about an object after its 512th call."}};

    // FaceTest reads it line by line, and holds the class against all of it.
    private static final String FACE = "The public face";

    private final Document document;
    private final Map<String, boolean[]> named = new LinkedHashMap<>();
    private int wrong = 0;

    private SentencesTest(Document document) {
        this.document = document;
        for (String place : document.names()) {
            named.put(place, new boolean[document.textOf(place).length()]);
        }
    }

    public static void main(String[] args) throws Exception {
        SentencesTest test = new SentencesTest(Document.read());
        test.nameSignatures();
        for (Class<?> tests : TESTS) {
            test.nameSentences(tests);
        }
        for (String[] nothing : PROMISES_NOTHING) {
            test.name("what promises nothing", nothing[0], nothing[1]);
        }
        for (String place : test.document.names()) {
            if (!place.equals(FACE)) {
                test.tellRest(place);
            }
        }
        System.out.println(test.wrong == 0 ? "each sentence of the document has a test" : test.wrong + " sentences are amiss");
        if (test.wrong != 0) {
            System.exit(1);
        }
    }

    private void fail(String what) {
        wrong++;
        System.out.println(what);
    }

    /** The signature at the head of a promise has to be one of the face, which FaceTest holds the class against. */
    private void nameSignatures() {
        for (String place : document.names()) {
            String text = document.textOf(place).strip();
            int end = text.indexOf("`: ");
            if (!place.startsWith("Promise ") || !text.startsWith("`") || end < 0) {
                continue;
            }
            String signature = text.substring(1, end);
            if (!document.textOf(FACE).contains("    public " + signature + ";\n")) {
                fail(place + ": the face has no " + signature);
            }
            name(place, place, "`" + signature + "`: ");
        }
    }

    private void nameSentences(Class<?> tests) {
        for (Method method : tests.getDeclaredMethods()) {
            for (Says says : method.getAnnotationsByType(Says.class)) {
                name(tests.getName() + "." + method.getName(), says.where(), says.words());
            }
        }
    }

    private void name(String who, String where, String words) {
        int found = 0;
        for (String place : where.split(", ")) {
            String text = document.textOf(place);
            if (text.isEmpty()) {
                fail(who + ": the document has no " + place);
            }
            for (int at = text.indexOf(words); at >= 0; at = text.indexOf(words, at + 1)) {
                found++;
                Arrays.fill(named.get(place), at, at + words.length(), true);
            }
        }
        if (found != 1) {
            fail(who + ": in " + where + " there are " + found + " times the words \"" + words + "\"");
        }
    }

    /** Tells the lines with letters or digits that nothing names, ".." for what is named in them. */
    private void tellRest(String place) {
        String text = document.textOf(place);
        boolean[] isNamed = named.get(place);
        int from = 0;
        for (String line : text.split("\n", -1)) {
            StringBuilder rest = new StringBuilder();
            boolean isWhole = true;
            for (int i = 0; i < line.length(); i++) {
                boolean isDone = isNamed[from + i];
                isWhole &= isDone || !Character.isLetterOrDigit(line.charAt(i));
                rest.append(isDone ? "\0" : line.charAt(i));
            }
            if (!isWhole) {
                fail(place + ", no test for: " + rest.toString().replaceAll("\0+", ".."));
            }
            from += line.length() + 1;
        }
    }
}
