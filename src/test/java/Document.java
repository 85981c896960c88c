import java.io.IOException;
import java.nio.file.Files;
import java.nio.file.Path;
import java.util.ArrayList;
import java.util.List;
import java.util.regex.Matcher;
import java.util.regex.Pattern;

/** The document's sentences: those that hold for all promises, and those of each promise. */
final class Document {
    static final int PROMISES = 33;

    private static final Pattern PROMISE = Pattern.compile("## Promise (\\d+): .*");
    private static final String HEAD_OF_A_METHOD = "`[^`]*`: ";
    private static final String END_OF_A_SENTENCE = "(?<=\\.|\\.\\)) (?=[A-Z(])";
    /** Place 0 is for the sentences of "What it is" and of "Terms". */
    private final List<List<String>> sentences = new ArrayList<>();

    private Document() {
        for (int promise = 0; promise <= PROMISES; promise++) {
            sentences.add(new ArrayList<>());
        }
    }

    static Document read(Path file) throws IOException {
        Document document = new Document();
        int promise = -1;
        for (String line : Files.readAllLines(file)) {
            if (line.startsWith("## ")) {
                promise = placeOf(line);
            } else if (promise >= 0 && !line.isBlank()) {
                document.addSentences(promise, line);
            }
        }
        return document;
    }

    private static int placeOf(String heading) {
        if (heading.equals("## What it is") || heading.equals("## Terms")) {
            return 0;
        }
        Matcher matcher = PROMISE.matcher(heading);
        return matcher.matches() ? Integer.parseInt(matcher.group(1)) : -1;
    }

    private void addSentences(int promise, String line) {
        String text = promise > 0 ? line.replaceFirst("^" + HEAD_OF_A_METHOD, "").replaceFirst("^- ", "") : line;
        for (String sentence : text.split(END_OF_A_SENTENCE)) {
            sentences.get(promise).add(sentence);
        }
    }

    List<String> sentencesOf(int promise) {
        return sentences.get(promise);
    }

    /** Whether the quote stands in a sentence of this promise, or of those that hold for all. */
    boolean tells(int promise, String quote) {
        return sentences.get(promise).stream().anyMatch(sentence -> sentence.contains(quote))
            || sentences.get(0).stream().anyMatch(sentence -> sentence.contains(quote));
    }
}
