import java.io.IOException;
import java.nio.file.Files;
import java.nio.file.Path;
import java.util.LinkedHashMap;
import java.util.List;
import java.util.Map;

/** The sentences that the EdgesTests name are those of the document, in their order, and none is left out. */
public final class DocumentTest {
    private static final Path DOCUMENT = Path.of("../shared/DOC.md");
    private static final List<Sentences> TESTS = List.of(
        WhatItIsEdgesTest.sentences(), TermsObjectsEdgesTest.sentences(), TermsAccessEdgesTest.sentences(),
        TermsSameEdgesTest.sentences(), TermsEntriesEdgesTest.sentences(), TermsStorageEdgesTest.sentences(),
        TermsSavesEdgesTest.sentences(), TermsRefusalsEdgesTest.sentences(), NewObjectEdgesTest.sentences(),
        MakeEdgesTest.sentences(), PutEdgesTest.sentences(), GetEdgesTest.sentences(), PartEdgesTest.sentences(),
        AttributeEdgesTest.sentences(), ToldEdgesTest.sentences(), SameEdgesTest.sentences(), CompareEdgesTest.sentences(),
        LengthEdgesTest.sentences(), EntryEdgesTest.sentences(), LookEdgesTest.sentences(), KindEdgesTest.sentences(),
        UsedEdgesTest.sentences(), RestoreEdgesTest.sentences());
    /** The face is FaceTest's; what is not promised is not tried. */
    private static final List<String> WITHOUT_SENTENCES = List.of("The public face", "Not promised");

    private static final Due due = new Due();

    public static void main(String[] args) throws IOException {
        if (!Files.exists(DOCUMENT)) {
            // a checkout without the document can still be tested by all the other tests
            System.out.println(DOCUMENT + " is not there: nothing to compare with");
            return;
        }
        Map<String, String> sections = sections(Files.readString(DOCUMENT));
        Map<String, String> tried = tried();
        due.is("sections with promises", sections.keySet().stream().filter(s -> s.startsWith("Promise ")).count(), 15);
        for (Map.Entry<String, String> section : sections.entrySet()) {
            String said = section.getValue();
            String quoted = tried.remove(section.getKey());
            if (!WITHOUT_SENTENCES.contains(section.getKey())) {
                due.yes(section.getKey() + " says\n" + said + "\nbut tried is\n" + quoted, said.equals(quoted));
            }
        }
        due.yes("no such section: " + tried.keySet(), tried.isEmpty());
        due.end();
    }

    private static Map<String, String> tried() {
        Map<String, String> tried = new LinkedHashMap<>();
        for (Sentences tests : TESTS) {
            tried.merge(tests.section(), String.join(" ", tests.all()), (a, b) -> a + " " + b);
        }
        return tried;
    }

    /** The text of each section by its heading, without fences, line breaks and the call that a promise begins with. */
    private static Map<String, String> sections(String document) {
        Map<String, String> sections = new LinkedHashMap<>();
        String[] parts = document.split("(?m)^## ");
        for (int k = 1; k < parts.length; k++) {
            int end = parts[k].indexOf('\n');
            String heading = parts[k].substring(0, end).strip();
            String text = parts[k].substring(end).replaceAll("(?m)^```.*$", "").replaceAll("\\s+", " ").strip();
            text = text.replaceFirst("^`[^`]*`: ", "");
            sections.put(heading, heading.equals("What it is") ? lastParagraph(parts[k]) : text);
        }
        return sections;
    }

    /** The first one only tells what the others promise. */
    private static String lastParagraph(String section) {
        String[] paragraphs = section.strip().split("\n\\s*\n");
        return paragraphs[paragraphs.length - 1].strip();
    }
}
