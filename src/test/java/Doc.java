import java.io.IOException;
import java.nio.file.Files;
import java.nio.file.Path;
import java.util.Map;
import java.util.TreeMap;
import java.util.regex.Matcher;
import java.util.regex.Pattern;

/**
 * The document's own words: what is tested stands under the sentence that says so, and at the end no sentence of
 * "Terms" and of the promises may be left without a test.
 */
final class Doc {
    private static final int TERMS = 0;
    private static final int PROMISES = 35;
    private static final Map<Integer, Part> PARTS = new TreeMap<>();

    private Doc() {
    }

    /** A part of the document in one line, and which of its letters a test has told. */
    private static final class Part {
        final String text;
        final boolean[] isTold;

        Part(String text) {
            this.text = text;
            isTold = new boolean[text.length()];
        }

        boolean tell(String sentence) {
            int at = text.indexOf(sentence);
            for (int i = at; at >= 0 && i < at + sentence.length(); i++) {
                isTold[i] = true;
            }
            return at >= 0;
        }

        String untold() {
            StringBuilder left = new StringBuilder();
            for (int i = 0; i < isTold.length; i++) {
                left.append(isTold[i] ? ' ' : text.charAt(i));
            }
            return left.toString().replaceAll("[=;:. ]+", " ").trim();
        }
    }

    static void open(Path file) throws IOException {
        if (!Files.exists(file)) {
            System.out.println("no document at " + file + ": the tests' sentences are not looked up in it");
            return;
        }
        String all = Files.readString(file).replaceAll("(?m)^(```.*|Ahead of the calls .*)$", "");
        Matcher heads = Pattern.compile("(?ms)^## (Terms|Promise (\\d+): [^\n]*)\n(.*?)(?=^## )").matcher(all);
        while (heads.find()) {
            int number = heads.group(2) == null ? TERMS : Integer.parseInt(heads.group(2));
            String words = heads.group(3).replaceAll("\\s+", " ").trim();
            // a promise begins with the head of its call
            PARTS.put(number, new Part(number == TERMS ? words : words.replaceFirst("^`[^`]*`: ", "")));
        }
        Check.due("the document has Terms and promises 1 to 35", PARTS.size(), PROMISES + 1);
    }

    /** What is tested from here on is this sentence of "Terms". */
    static void terms(String sentence) {
        tell(TERMS, sentence);
    }

    /** What is tested from here on is this sentence of a promise. */
    static void promise(int number, String sentence) {
        tell(number, sentence);
    }

    private static void tell(int number, String sentence) {
        Check.under((number == TERMS ? "Terms" : "Promise " + number) + ": " + sentence);
        Part part = PARTS.get(number);
        Check.holds("the document says so", PARTS.isEmpty() || (part != null && part.tell(sentence)));
    }

    static void end() {
        Check.under("the document");
        for (Map.Entry<Integer, Part> part : PARTS.entrySet()) {
            String left = part.getValue().untold();
            Check.holds((part.getKey() == TERMS ? "Terms" : "Promise " + part.getKey()) + " has no test of: " + left, left.isEmpty());
        }
    }
}
