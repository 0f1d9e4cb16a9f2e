import java.io.IOException;
import java.nio.file.Files;
import java.nio.file.Path;
import java.util.LinkedHashMap;
import java.util.Map;

/**
 * The document, sentence by sentence. A test says which words of it it holds; words that stand
 * there and that no test has said are told at the end, and so are words said that don't stand there.
 */
final class Doc {
    static final Check C = new Check();

    private static final Path PLACE = Path.of("../shared/DOC.md");
    private static final Map<String, StringBuilder> PARTS = new LinkedHashMap<>();

    private Doc() {
    }

    /** Without the document beside the checkout the tests run all the same, but for the quoting. */
    static void read() throws IOException {
        if (!Files.isReadable(PLACE)) {
            System.out.println("no " + PLACE + ": what the tests quote isn't compared with it");
            return;
        }
        String part = "";
        for (String line : Files.readAllLines(PLACE)) {
            if (line.startsWith("====")) {
                part = line.substring(5, 6);
                line = line.substring(7);
            } else if (line.startsWith("Answers: ")) {
                part = "Answers";
                line = line.substring(9);
            } else if (line.startsWith("## Promise ")) {
                part = line.substring(3, line.indexOf(':'));
                line = "";
            } else if (line.startsWith("#")) {
                part = line.replace("#", "").trim();
                line = "";
            }
            boolean fence = line.startsWith("```");
            PARTS.computeIfAbsent(part, k -> new StringBuilder()).append(fence ? "" : line.trim() + " ");
        }
        for (Map.Entry<String, StringBuilder> e : PARTS.entrySet()) {
            if (e.getKey().startsWith("Promise")) {
                e.getValue().replace(0, e.getValue().indexOf("`: ") + 3, "");
            }
            String plain = e.getValue().toString().replaceAll("\\s+", " ");
            e.setValue(new StringBuilder(plain));
        }
    }

    /** What follows holds these words of that part of the document. */
    static void says(String part, String words) {
        C.part("DOC " + part + ", \"" + words + "\"");
        StringBuilder text = PARTS.get(part);
        if (text == null) {
            C.due("the part stands in the document, or there is none", PARTS.isEmpty() ? 1 : 0, 1);
            return;
        }
        // what was said is blotted out, so that the same words in another place are found then
        int at = text.indexOf(words);
        C.due("the words stand in the document, once for each test", at >= 0 ? 1 : 0, 1);
        for (int i = at; at >= 0 && i < at + words.length(); i++) {
            text.setCharAt(i, ' ');
        }
    }

    static void promise(int number, String words) {
        says("Promise " + number, words);
    }

    /** Every word of the terms, the answers and the promises was said by a test. */
    static void allSaid() {
        for (Map.Entry<String, StringBuilder> e : PARTS.entrySet()) {
            if (e.getKey().matches("[1-4]|Answers|Promise \\d+")) {
                C.part("DOC " + e.getKey());
                String left = e.getValue().toString().replaceAll("[\\s.;:,()]+", " ").trim();
                C.due("words that no test says: \"" + left + "\"", left.length(), 0);
            }
        }
    }
}
