import java.io.IOException;
import java.nio.file.Files;
import java.nio.file.Path;
import java.util.ArrayList;
import java.util.Arrays;
import java.util.List;

/** Every sentence of the document has tests that bear its words: plays them, and looks whether one was left out. */
final class SentencesTest {
    private static final Path DOCUMENT = Path.of("../shared/DOC.md");

    public static void main(String[] args) throws IOException {
        Sentences doc = new Sentences();
        ObjectSentences.holdAll(doc);
        ThrownSentences.holdAll(doc);
        HashSentences.holdAll(doc);
        LinkedSentences.holdAll(doc);
        MapSentences.holdAll(doc);
        ViewSentences.holdAll(doc);
        CursorSentences.holdAll(doc);
        PromiseSentences.holdAll(doc);
        if (Files.exists(DOCUMENT)) {
            checkQuotes(doc, toldText(Files.readString(DOCUMENT)));
        }
        doc.end();
    }

    /** What the sections tell, without headings, without the face (FaceTest has it) and without what is not promised. */
    private static String toldText(String document) {
        StringBuilder text = new StringBuilder();
        boolean isTold = false;
        for (String line : document.split("\n")) {
            if (line.startsWith("## ")) {
                isTold = line.equals("## What it is") || line.equals("## Terms") || line.startsWith("## Promise ");
            } else if (isTold && !line.startsWith("```")) {
                text.append(line.replaceAll("^`[^`]*`: ", "")).append(" ");
            }
        }
        return oneSpaced(text.toString());
    }

    private static String oneSpaced(String text) {
        return text.replaceAll("\\s+", " ").strip();
    }

    private static void checkQuotes(Sentences doc, String text) {
        boolean[] isQuoted = new boolean[text.length()];
        for (String sentence : doc.quoted()) {
            doc.runs().due("words of the document: " + sentence, text.contains(sentence), true);
            for (int at = text.indexOf(sentence); at >= 0; at = text.indexOf(sentence, at + 1)) {
                Arrays.fill(isQuoted, at, at + sentence.length(), true);
            }
        }
        doc.runs().due("words of the document that no test bears", leftOut(text, isQuoted), List.of());
    }

    private static List<String> leftOut(String text, boolean[] isQuoted) {
        List<String> left = new ArrayList<>();
        int from = 0;
        for (int at = 0; at <= text.length(); at++) {
            if (at == text.length() || isQuoted[at]) {
                String words = text.substring(from, at).strip();
                if (words.matches(".*[A-Za-z0-9].*")) {
                    left.add(words);
                }
                from = at + 1;
            }
        }
        return left;
    }
}
