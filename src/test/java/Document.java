import java.io.IOException;
import java.io.UncheckedIOException;
import java.nio.file.Files;
import java.nio.file.Path;
import java.util.ArrayList;
import java.util.List;
import java.util.Set;
import java.util.TreeSet;
import java.util.regex.Matcher;
import java.util.regex.Pattern;

/** The sentences of ../shared/DOC.md, section by section. */
final class Document {
    static final int PROMISES = 63;

    /** The number that stands for the sections ahead of the promises. */
    static final int TERMS = 0;

    private static final int NO_SECTION = -1;
    private static final Path PATH = Path.of("../shared/DOC.md");
    private static final Pattern PROMISE = Pattern.compile("## Promise (\\d+):.*");

    private Document() {
    }

    static List<String> lines() {
        return linesOf(PATH);
    }

    static List<String> linesOf(Path path) {
        try {
            return Files.readAllLines(path);
        } catch (IOException failed) {
            throw new UncheckedIOException(failed);
        }
    }

    static Set<String> sentencesOf(int promise) {
        Set<String> sentences = new TreeSet<>();
        for (String paragraph : paragraphsOf(promise)) {
            String text = paragraph.replaceFirst("^`\\w[^`]*\\(.*?`: |^The constants: ", "");
            // The details of the reasons have the same words, so what is said of a constant stays together.
            if (text.matches("`[A-Z_]+ = .*")) {
                sentences.add(text);
            } else {
                sentences.addAll(List.of(text.split("(?<=\\.)\\s+(?=[A-Z\"`])")));
            }
        }
        return sentences;
    }

    /** Whether a sentence says what a call does: no heading, no name alone and nothing about the layout. */
    static boolean canBeTested(String sentence) {
        boolean isHeading = sentence.matches("\\w+\\.");
        boolean isName = sentence.startsWith("- ") && !sentence.matches(".*[\\d'].*");
        boolean isLayout = sentence.startsWith("Ahead of the calls") || sentence.startsWith("A dispatcher for");
        return !isHeading && !isName && !isLayout;
    }

    private static List<String> paragraphsOf(int promise) {
        List<String> paragraphs = new ArrayList<>();
        StringBuilder paragraph = new StringBuilder();
        int section = NO_SECTION;
        for (String line : lines()) {
            if (line.isBlank() || line.startsWith("- ") || line.startsWith("#")) {
                keep(paragraph, paragraphs);
            }
            if (line.startsWith("#")) {
                section = sectionOf(line);
            } else if (section == promise && !line.isBlank()) {
                paragraph.append(paragraph.length() == 0 ? "" : " ").append(line.trim());
            }
        }
        keep(paragraph, paragraphs);
        return paragraphs;
    }

    private static void keep(StringBuilder paragraph, List<String> paragraphs) {
        if (paragraph.length() > 0) {
            paragraphs.add(paragraph.toString());
            paragraph.setLength(0);
        }
    }

    private static int sectionOf(String heading) {
        Matcher promise = PROMISE.matcher(heading);
        if (promise.matches()) {
            return Integer.parseInt(promise.group(1));
        }
        return heading.equals("## Terms") || heading.equals("## What it is") ? TERMS : NO_SECTION;
    }
}
