import java.io.IOException;
import java.nio.file.Files;
import java.nio.file.Path;
import java.util.ArrayList;
import java.util.LinkedHashMap;
import java.util.List;
import java.util.Map;
import java.util.regex.Matcher;
import java.util.regex.Pattern;

/** The sections of DOC.md, so that tests can be held against its sentences. */
final class Document {
    /** Sentences that only lead to others, so that there is nothing to test. */
    private static final List<String> LEADING = List.of("Words, pins, flags, memory", "An engine has:",
            "In the cycle with the number c (the clock before), the following is done in this order:",
            "Otherwise the engine tries its instruction:", "The instructions:", "Error codes.", "The constants:",
            "The constructor and the methods follow, a promise each: the signature, then what it does.");

    /** A number and a full stop at the beginning of a line are no sentence. */
    private static final String END_OF_SENTENCE = "(?m)(?<=[.;])(?<!^\\d[.]) (?![.(])|\n";

    private static final Path PLACE = Path.of("../shared/DOC.md");

    /** The words that the grammars quote. */
    static final List<String> QUOTED_WORDS = List.of(("engine start level side delay clock wrap outpins setpins sidepins"
            + " inpins jumppin inleft outleft autopush autopull joinin joinout jmp xzero yzero xdec ydec differ pin more"
            + " wait flag in pins x y null isr osr out dirs pc push iffull noblock pull ifempty mov not reverse status"
            + " raise clear signal set load store many first or and fill spent stall input output").split(" "));

    private final Map<String, String> sections = new LinkedHashMap<>();

    private Document() {
    }

    static boolean isThere() {
        return Files.exists(PLACE);
    }

    static Document read() throws IOException {
        Document document = new Document();
        String heading = "";
        for (String line : Files.readAllLines(PLACE)) {
            if (line.startsWith("#")) {
                heading = line.replaceFirst("^#+ ", "").replaceFirst("^(Promise \\d+):.*", "$1");
            } else if (!line.isBlank()) {
                document.sections.merge(heading, line.strip(), (before, added) -> before + "\n" + added);
            }
        }
        return document;
    }

    boolean says(String heading, String words) {
        return sections.getOrDefault(heading, "").contains(words);
    }

    /** The sentences that can be tested, each as its heading and its words. */
    List<String[]> sentences() {
        List<String[]> found = new ArrayList<>();
        for (Map.Entry<String, String> section : sections.entrySet()) {
            if (isPromised(section.getKey())) {
                for (String sentence : section.getValue().split(END_OF_SENTENCE)) {
                    if (!LEADING.contains(sentence) && !isSignature(sentence)) {
                        found.add(new String[] {section.getKey(), sentence});
                    }
                }
            }
        }
        return found;
    }

    /** The words that the grammars of the document quote, in their order. */
    List<String> quotedWords() {
        String text = sections.get("Input text");
        String grammars = text.substring(text.indexOf("program: clause"), text.indexOf("The name before"));
        List<String> words = new ArrayList<>();
        Matcher quoted = Pattern.compile("'([a-z]+)'").matcher(grammars);
        while (quoted.find()) {
            if (!words.contains(quoted.group(1))) {
                words.add(quoted.group(1));
            }
        }
        return words;
    }

    /** The quoted words, and every sign that can be written but letters and digits. */
    static List<String> wordsAndSigns() {
        List<String> tokens = new ArrayList<>(QUOTED_WORDS);
        for (char sign = '!'; sign <= '~'; sign++) {
            if (!Character.isLetterOrDigit(sign)) {
                tokens.add("" + sign);
            }
        }
        return tokens;
    }

    private static boolean isPromised(String heading) {
        return heading.startsWith("Promise") || heading.equals("Description") || heading.equals("Program and engines")
                || heading.equals("One cycle") || heading.equals("Ticks") || heading.equals("Input text")
                || heading.equals("Operations");
    }

    private static boolean isSignature(String sentence) {
        return sentence.matches("`.*\\)( throws .*)?`");
    }
}
