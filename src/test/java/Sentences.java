import java.util.LinkedHashMap;
import java.util.Map;
import java.util.Set;
import java.util.function.Consumer;

/** A section of the document, sentence by sentence, with a test of its own for each. */
final class Sentences {
    private final String section;
    private final Map<String, Consumer<Trial>> tests = new LinkedHashMap<>();

    Sentences(String section) {
        this.section = section;
    }

    Sentences says(String sentence, Consumer<Trial> test) {
        if (tests.put(sentence, test) != null) {
            throw new IllegalArgumentException("twice: " + sentence);
        }
        return this;
    }

    String section() {
        return section;
    }

    Set<String> all() {
        return tests.keySet();
    }

    /** Tells each sentence that does not hold, and ends with exit code 1 if there is one. */
    void run() {
        int answers = 0;
        int broken = 0;
        for (Map.Entry<String, Consumer<Trial>> test : tests.entrySet()) {
            Trial trial = new Trial();
            try {
                test.getValue().accept(trial);
            } catch (RuntimeException e) {
                trial.tell("throws " + e);
            }
            answers += trial.answers();
            if (!trial.wrong().isEmpty() || trial.answers() == 0) {
                broken++;
                System.out.println(section + " does not hold: \"" + test.getKey() + "\"\n" + trial.wrong());
            }
        }
        System.out.println(section + ": " + tests.size() + " sentences, " + answers + " answers, " + broken + " broken");
        if (broken != 0 || tests.isEmpty()) {
            System.exit(1);
        }
    }
}
