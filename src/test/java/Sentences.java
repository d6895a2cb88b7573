import java.io.IOException;
import java.io.UncheckedIOException;
import java.nio.file.Files;
import java.nio.file.Path;
import java.util.LinkedHashMap;
import java.util.Map;
import java.util.Set;
import java.util.TreeSet;
import java.util.function.Consumer;
import java.util.function.Supplier;

/**
 * What the tests by sentences share: each test stands behind words of the document, which must be
 * found there under their heading.
 */
final class Sentences {

    static final Class<?> INDEX = IndexOutOfBoundsException.class;
    static final Class<?> ARGUMENT = IllegalArgumentException.class;
    static final Class<?> STATE = IllegalStateException.class;
    static final int LOW = Integer.MIN_VALUE;
    static final int HIGH = Integer.MAX_VALUE;

    private static final Path DOCUMENT = Path.of("../shared/DOC.md");
    private static final Map<String, String> PARTS = new LinkedHashMap<>();
    private static final Set<String> TESTED = new TreeSet<>();

    private static int wrong;
    private static String sentence = "";

    private Sentences() { }

    static {
        String heading = "";
        try {
            for (String line : Files.readAllLines(DOCUMENT)) {
                if (line.startsWith("#")) {
                    heading = line.replaceFirst("^#+ ", "");
                }
                PARTS.merge(heading, line, (before, more) -> before + "\n" + more);
            }
        } catch (IOException e) {
            throw new UncheckedIOException(e);
        }
    }

    private static String inOneLine(String text) {
        return text.replaceAll("\\s+", " ");
    }

    /** The heading may be shortened to how it begins, as with "Promise 3:". */
    private static String partUnder(String heading) {
        for (Map.Entry<String, String> part : PARTS.entrySet()) {
            if (part.getKey().startsWith(heading)) {
                return part.getValue();
            }
        }
        return "";
    }

    static void holds(String heading, String words, Runnable test) {
        sentence = heading + " " + words;
        if (!inOneLine(partUnder(heading)).contains(inOneLine(words))) {
            wrong++;
            System.out.println("the document does not say: " + sentence);
        }
        TESTED.add(sentence);
        test.run();
    }

    /** Every row of the document that says what is thrown must have been tested. */
    static void needEachRowThatThrows() {
        for (String heading : PARTS.keySet()) {
            for (String line : PARTS.get(heading).split("\n")) {
                String begin = heading.replaceFirst(":.*", ":");
                if (line.startsWith("Throws ") && !TESTED.contains(begin + " " + line.trim())) {
                    wrong++;
                    System.out.println("no test for: " + begin + " " + line);
                }
            }
        }
    }

    static void end() {
        if (wrong > 0) {
            System.out.println(wrong + " answers are wrong");
            System.exit(1);
        }
    }

    static Object answerOf(Supplier<?> call) {
        try {
            return call.get();
        } catch (RuntimeException e) {
            return e.getClass();
        }
    }

    static void due(Object want, Supplier<?> call) {
        Object got = answerOf(call);
        if (!want.equals(got)) {
            wrong++;
            StringBuilder lines = new StringBuilder();
            for (StackTraceElement at : new Throwable().getStackTrace()) {
                lines.append(' ').append(at.getLineNumber());
            }
            System.out.println(sentence + "\n  lines" + lines + ": answered " + got + "\n  due is " + want);
        }
    }

    /** The call must throw that exception, and leave the object as one that never had the call. */
    static void refused(Class<?> want, Supplier<Bench> start, Consumer<Bench> call) {
        Bench one = start.get();
        Bench other = start.get();
        due(want, () -> {
            call.accept(one);
            return "no exception";
        });
        due(other.story(), one::story);
    }
}
