import java.io.IOException;
import java.nio.charset.StandardCharsets;
import java.nio.file.Files;
import java.nio.file.Path;
import java.util.ArrayList;
import java.util.HashSet;
import java.util.LinkedHashMap;
import java.util.List;
import java.util.Map;
import java.util.Set;
import java.util.function.Consumer;

/**
 * Tests that bear words of the document. The words are looked up there, and a sentence of "What it is" and "Terms" or
 * a line of a promise that no test bears is told at the end, so that none is left out.
 */
final class Edges {
    private static final String WHAT_IT_IS = "What it is";
    private static final String TERMS = "Terms";

    private final Checks check;
    private final Map<String, List<String>> units = new LinkedHashMap<>();
    private final Set<String> borne = new HashSet<>();
    private int tests = 0;

    Edges(Path document, Checks check) throws IOException {
        this.check = check;
        String section = "";
        for (String line : Files.readAllLines(document, StandardCharsets.UTF_8)) {
            if (line.startsWith("#")) {
                section = line.replaceFirst("^#+ ", "").replaceFirst(":.*", "");
            } else if (section.equals(TERMS) || section.equals(WHAT_IT_IS)) {
                // a paragraph's lead word ("Cave.") is no sentence
                for (String sentence : line.replaceFirst("^[A-Z][a-z]+\\. ", "").split("(?<=\\.) (?=[A-Z3])")) {
                    add(section, sentence);
                }
            } else if (section.startsWith("Promise ")) {
                add(section, line);
            }
        }
        check.hold("the document has what it is, its terms and 33 promises", units.size() == 35);
    }

    private void add(String section, String unit) {
        if (!unit.isBlank()) {
            units.computeIfAbsent(section, s -> new ArrayList<>()).add(unit);
        }
    }

    void whatItIs(String words, Consumer<Checks> test) {
        of(WHAT_IT_IS, words, test);
    }

    void term(String words, Consumer<Checks> test) {
        of(TERMS, words, test);
    }

    void promise(int number, String words, Consumer<Checks> test) {
        of("Promise " + number, words, test);
    }

    /** Words that name no boundary: there is nothing to test. */
    void plain(String words) {
        bear(TERMS, words);
    }

    private void of(String section, String words, Consumer<Checks> test) {
        bear(section, words);
        int before = check.total();
        check.begin(section + ", \"" + words + "\"");
        test.accept(check);
        check.begin("");
        check.hold("no check of \"" + words + "\"", check.total() > before);
        tests++;
    }

    private void bear(String section, String words) {
        int found = 0;
        for (String unit : units.getOrDefault(section, List.of())) {
            if (unit.contains(words)) {
                borne.add(section + unit);
                found++;
            }
        }
        check.hold(section + " has the words \"" + words + "\" " + found + " times", found == 1);
    }

    void end() {
        for (Map.Entry<String, List<String>> section : units.entrySet()) {
            for (String unit : section.getValue()) {
                check.hold("no test bears, of " + section.getKey() + ": " + unit,
                        borne.contains(section.getKey() + unit));
            }
        }
        System.out.println("EdgesTest: " + tests + " tests, each of words of the document");
    }
}
