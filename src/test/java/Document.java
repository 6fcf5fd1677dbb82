import java.io.IOException;
import java.nio.file.Files;
import java.nio.file.Path;
import java.util.ArrayList;
import java.util.List;

/** The sentences of the document that can name boundary cases, and which of them a test has named. */
final class Document {

    static final int PROMISES = 47;

    private final String text;
    private final List<String> named = new ArrayList<>();

    Document(Path path) throws IOException {
        text = Files.readString(path);
    }

    /** Keeps that a test names some words of a part: false if the part does not say them. */
    boolean name(int part, String says) {
        named.add(part + ":" + says);
        return wordsOf(part).contains(says);
    }

    /** Sentences of all promises and of the terms of which no test names any words. */
    List<String> unnamed() {
        List<String> unnamed = new ArrayList<>();
        for (int part = Boundary.WHAT_IT_IS; part <= PROMISES; part++) {
            for (String sentence : sentencesOf(part)) {
                if (!isNamed(part, sentence)) {
                    unnamed.add(headingOf(part) + ": " + sentence);
                }
            }
        }
        return unnamed;
    }

    static String headingOf(int part) {
        if (part == Boundary.WHAT_IT_IS) {
            return "What it is";
        }
        return part == Boundary.TERMS ? "Terms" : "Promise " + part;
    }

    private boolean isNamed(int part, String sentence) {
        for (String name : named) {
            int colon = name.indexOf(':');
            String says = name.substring(colon + 1);
            if (Integer.parseInt(name.substring(0, colon)) == part && (sentence.contains(says) || says.contains(sentence))) {
                return true;
            }
        }
        return false;
    }

    /** A part without its heading, the call that it is about, fences and numbers of its paragraphs, in one line. */
    private String wordsOf(int part) {
        String heading = "## " + headingOf(part) + (part > 0 ? ": " : "\n");
        int start = text.indexOf(heading);
        if (start < 0) {
            return "";
        }
        start = text.indexOf('\n', start);
        int end = text.indexOf("\n## ", start);
        String words = end < 0 ? text.substring(start) : text.substring(start, end);
        words = words.replaceAll("(?m)^```.*$", "").replaceAll("(?m)^\\d\\. ", "").replaceAll("(?m)^`[^`]*`: ", "");
        return words.replaceAll("\\s+", " ").trim();
    }

    private List<String> sentencesOf(int part) {
        List<String> sentences = new ArrayList<>();
        for (String sentence : wordsOf(part).split("(?<=(?<!\\.)\\.|\\.\\)) (?=[A-Z(-])")) {
            // the first sentence of all tells what the class is for, and these only how the face is ordered
            boolean namesNothing = sentence.startsWith("From one mouth") || sentence.startsWith("Ahead of the calls");
            if (!namesNothing) {
                sentences.add(sentence);
            }
        }
        return sentences;
    }
}
