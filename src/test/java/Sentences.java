import java.io.IOException;
import java.nio.file.Files;
import java.nio.file.Path;
import java.util.ArrayList;
import java.util.LinkedHashSet;
import java.util.List;
import java.util.Set;
import java.util.function.Consumer;
import java.util.function.Supplier;
import java.util.regex.Pattern;

/**
 * Tests of the document's sentences, one by one, and whether each sentence has one.
 *
 * Whoever asks what a refused call changes gives a maker, not an object: a twin that the call was
 * not made on is compared, and no object comes to more than the document's 512 calls.
 */
final class Sentences {
    /** The number that stands for what the document tells ahead of promise 1. */
    static final int TERMS = 0;

    private static final Path DOCUMENT = Path.of("..", "shared", "DOC.md");

    /** How lines of 'Terms' begin that say nothing that could be broken. */
    private static final Pattern NO_TERM = Pattern.compile("```|Persons buy fates, |"
            + "A miss of a person by some inches goes like this:|Ahead of the calls ");

    private final Check check = new Check();
    private final Set<String> tested = new LinkedHashSet<>();
    private String now = "";

    /** Runs the test of a sentence, which stands under the promise in just these words. */
    void of(int promise, String sentence, Runnable test) {
        now = "promise " + promise + ", \"" + sentence + "\": ";
        tested.add(key(promise, sentence));
        int before = check.asked();
        test.run();
        check.same(now + "the test asks something", true, check.asked() > before);
    }

    void due(String what, long want, long got) {
        check.same(now + what, want, got);
    }

    void due(String what, boolean want, boolean got) {
        check.same(now + what, want, got);
    }

    void dueDouble(String what, double want, double got) {
        check.sameDouble(now + what, want, got);
    }

    void index(String what, Supplier<MissRegistry> made, Consumer<MissRegistry> call) {
        refused(what, made, IndexOutOfBoundsException.class, call);
    }

    void argument(String what, Supplier<MissRegistry> made, Consumer<MissRegistry> call) {
        refused(what, made, IllegalArgumentException.class, call);
    }

    void state(String what, Supplier<MissRegistry> made, Consumer<MissRegistry> call) {
        refused(what, made, IllegalStateException.class, call);
    }

    void taken(String what, Supplier<MissRegistry> made, Consumer<MissRegistry> call) {
        MissRegistry x = made.get();
        check.sameText(now + what + " throws", "nothing", Check.thrownBy(() -> call.accept(x)));
    }

    private void refused(String what, Supplier<MissRegistry> made,
            Class<? extends Exception> want, Consumer<MissRegistry> call) {
        MissRegistry x = made.get();
        String thrown = Check.thrownBy(() -> call.accept(x));
        check.sameText(now + what + " throws", want.getName(), thrown);
        check.sameText(now + "state behind " + what, Check.stateOf(made.get()), Check.stateOf(x));
    }

    /** Ends the program; each sentence on an answer or an exception must have had a test. */
    void end(int firstPromise, int lastPromise) {
        if (Files.isReadable(DOCUMENT)) {
            compareWithDocument(firstPromise, lastPromise);
        } else {
            System.out.println("no " + DOCUMENT + ": the sentences are not looked up");
        }
        check.end();
    }

    private void compareWithDocument(int firstPromise, int lastPromise) {
        List<StringBuilder> sections = new ArrayList<>(List.of(new StringBuilder()));
        for (String line : documentLines()) {
            if (line.startsWith("## Promise ") || line.startsWith("## Not promised")) {
                sections.add(new StringBuilder());
            }
            int promise = sections.size() - 1;
            sections.get(promise).append(line.strip()).append(' ');
            boolean asked = promise >= firstPromise && promise <= lastPromise;
            if (asked && (line.startsWith("Returns ") || line.startsWith("Throws "))) {
                check.same("a test of promise " + promise + ", \"" + line + "\"", true,
                        tested.contains(key(promise, line)));
            }
        }
        if (firstPromise == TERMS) {
            check.sameText("what 'Terms' says without a test", "", untestedTerms());
        }
        for (int promise = 0; promise < sections.size(); promise++) {
            String text = sections.get(promise).toString();
            String start = key(promise, "");
            for (String each : tested) {
                if (each.startsWith(start)) {
                    check.same("the document says " + each, true,
                            text.contains(each.substring(start.length())));
                }
            }
        }
    }

    /** What is left of 'Terms' without the sentences that have a test and those that need none. */
    private String untestedTerms() {
        StringBuilder terms = new StringBuilder();
        boolean inside = false;
        for (String line : documentLines()) {
            if (line.startsWith("## ")) {
                inside = line.equals("## Terms");
            } else if (inside && !NO_TERM.matcher(line).lookingAt()) {
                terms.append(line.strip()).append(' ');
            }
        }
        String left = terms.toString();
        for (String each : tested) {
            left = left.replace(each.substring(key(TERMS, "").length()), "");
        }
        return left.replace("Persons. ", "").replace("Witnesses. ", "").strip();
    }

    private static List<String> documentLines() {
        try {
            return Files.readAllLines(DOCUMENT);
        } catch (IOException e) {
            throw new IllegalStateException(e);
        }
    }

    private static String key(int promise, String sentence) {
        return promise + ": " + sentence;
    }
}
