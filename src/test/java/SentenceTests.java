import java.io.IOException;
import java.lang.reflect.Method;
import java.nio.file.Files;
import java.nio.file.Path;
import java.util.ArrayList;
import java.util.LinkedHashMap;
import java.util.List;
import java.util.Map;

/** Each sentence of the document is held by a test of its own, and each test holds words that the document has. */
public final class SentenceTests {
    private static final Path DOCUMENT = Path.of("../shared/DOC.md");
    private static final Class<?>[] TESTS = {TermsTests.class, ReceiversTests.class, FileTests.class, CallTests.class,
        TextTests.class, LookTests.class, GuessTests.class};
    /** The face is held by FaceTests. */
    private static final List<String> NOT_HELD_SECTIONS = List.of("MixedBlocks", "The public face", "Not promised");
    /** Titles, and what the interface says ahead of calls. */
    private static final List<String> NOT_HELD = List.of("A fountain of mixed blocks", "The file, mixes", "Ahead of");

    private final Checks checks = new Checks();

    public static void main(String[] args) throws IOException {
        if (!Files.exists(DOCUMENT)) {
            System.out.println("there is no " + DOCUMENT + " to compare with");
            return;
        }
        SentenceTests tests = new SentenceTests();
        Map<String, List<String>> document = sentences(Files.readAllLines(DOCUMENT));
        tests.eachSentenceIsHeld(document);
        tests.eachTestHoldsWordsOfTheDocument(document);
        tests.checks.end();
    }

    /** The sentences of each section, by its heading. */
    private static Map<String, List<String>> sentences(List<String> lines) {
        Map<String, List<String>> document = new LinkedHashMap<>();
        List<String> section = new ArrayList<>();
        for (String line : lines) {
            if (line.startsWith("#")) {
                section = new ArrayList<>();
                document.put(line.replaceFirst("#+ ", ""), section);
            } else if (!line.isBlank()) {
                section.addAll(List.of(line.split("(?<=\\.) (?=[A-Z])")));
            }
        }
        document.keySet().removeAll(NOT_HELD_SECTIONS);
        return document;
    }

    private void eachSentenceIsHeld(Map<String, List<String>> document) {
        for (Map.Entry<String, List<String>> section : document.entrySet()) {
            for (String sentence : section.getValue()) {
                boolean held = NOT_HELD.stream().anyMatch(sentence::startsWith);
                for (Holds test : tests()) {
                    held |= isOf(test, section.getKey()) && List.of(test.words()).stream().anyMatch(sentence::contains);
                }
                checks.due(section.getKey() + ": a test for: " + sentence, held, true);
            }
        }
    }

    private void eachTestHoldsWordsOfTheDocument(Map<String, List<String>> document) {
        for (Holds test : tests()) {
            for (String words : test.words()) {
                boolean found = false;
                for (Map.Entry<String, List<String>> section : document.entrySet()) {
                    found |= isOf(test, section.getKey()) && String.join(" ", section.getValue()).contains(words);
                }
                checks.due(test.in() + ": the document's words: " + words, found, true);
            }
        }
    }

    private static boolean isOf(Holds test, String heading) {
        return heading.equals(test.in()) || heading.startsWith(test.in() + ":");
    }

    private static List<Holds> tests() {
        List<Holds> all = new ArrayList<>();
        for (Class<?> tests : TESTS) {
            for (Method test : Cases.testsOf(tests)) {
                all.add(test.getAnnotation(Holds.class));
            }
        }
        return all;
    }
}
