import java.io.IOException;
import java.io.UncheckedIOException;
import java.nio.file.Files;
import java.nio.file.Path;
import java.util.ArrayList;
import java.util.HashSet;
import java.util.LinkedHashMap;
import java.util.List;
import java.util.Map;
import java.util.Set;

/**
 * Tests that are named by the sentences of ../shared/DOC.md: a name has to stand in the section that it
 * is said to be of, and a section can be asked whether each of its sentences has a test.
 */
final class Sentences {
    private static final Path DOCUMENT = Path.of("..", "shared", "DOC.md");
    /** They tell how the interface is laid out, and of no answer. */
    private static final String LAYOUT = "Ahead of the calls";

    private final Map<String, List<String>> bySection = new LinkedHashMap<>();
    private final Set<String> tested = new HashSet<>();
    private String section = "";

    Sentences() {
        boolean code = false;
        List<String> sentences = new ArrayList<>();
        for (String line : lines()) {
            if (line.startsWith("```")) {
                code = !code;
            } else if (!code && line.startsWith("#")) {
                sentences = new ArrayList<>();
                bySection.put(line.replaceFirst("^#+ ", ""), sentences);
            } else if (!code && !line.isBlank()) {
                String text = line.replaceFirst("^(- |[0-9]+\\. )", "");
                sentences.addAll(List.of(text.split("(?<=\\.|\\.\\)) (?=[A-Z(])")));
            }
        }
    }

    private static List<String> lines() {
        try {
            return Files.readAllLines(DOCUMENT);
        } catch (IOException unread) {
            throw new UncheckedIOException(unread);
        }
    }

    /** The tests that follow are of this section. */
    void section(String heading) {
        section = heading;
        Check.isTrue("the document has no section '" + heading + "'", bySection.containsKey(heading));
    }

    /** The words are a sentence of the section, or as much of one as tells it from the others there. */
    void test(String words, Runnable test) {
        Check.within(section + ": '" + words + "': ");
        int found = 0;
        for (String sentence : bySection.getOrDefault(section, List.of())) {
            if (sentence.contains(words)) {
                found++;
                tested.add(section + sentence);
            }
        }
        Check.equal("sentences of the section with these words", 1, found);
        int made = Check.madeSoFar();
        try {
            test.run();
        } catch (RuntimeException thrown) {
            Check.fail("the test ended with " + thrown);
        }
        Check.isTrue("nothing was checked", Check.madeSoFar() > made);
        Check.within("");
    }

    /** Each sentence of the sections whose headings begin so has a test. */
    void allTested(String... headings) {
        for (String heading : headings) {
            int sections = 0;
            for (Map.Entry<String, List<String>> entry : bySection.entrySet()) {
                if (entry.getKey().startsWith(heading)) {
                    sections++;
                    allTested(entry.getKey(), entry.getValue());
                }
            }
            Check.isTrue("the document has no section '" + heading + "..'", sections > 0);
        }
    }

    private void allTested(String heading, List<String> sentences) {
        for (String sentence : sentences) {
            Check.isTrue(heading + ": no test is named by '" + sentence + "'",
                    sentence.startsWith(LAYOUT) || tested.contains(heading + sentence));
        }
    }
}
