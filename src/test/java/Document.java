import java.io.IOException;
import java.nio.file.Files;
import java.nio.file.Path;
import java.util.ArrayList;
import java.util.LinkedHashMap;
import java.util.List;
import java.util.Map;
import java.util.regex.Pattern;

/** The document's text, to tell which of its sentences bear no test. */
final class Document {
    private static final Path FILE = Path.of("..", "shared", "DOC.md");
    private static final Pattern SECTION = Pattern.compile("[1-6]\\. [A-Z, -]+");
    private static final Pattern STEP = Pattern.compile("^ *[1-5]\\. ");
    private static final Pattern SENTENCE_END = Pattern.compile("(?<=\\.) (?=[A-Z])");
    /** Words by which a line of a promise names a boundary case. */
    private static final Pattern BOUNDARY = Pattern.compile("^Throws |[0-9]|NONE|at least|least "
            + "|negative|empty|does not matter|in place of|another|without|nothing|no more|past "
            + "|earlier|only|so far|left|present");

    private final Map<String, List<String>> parts = new LinkedHashMap<>();

    private Document(List<String> lines) {
        String part = "head";
        for (String line : lines) {
            part = partFrom(line, part);
            parts.computeIfAbsent(part, k -> new ArrayList<>()).add(line);
        }
    }

    private static String partFrom(String line, String part) {
        if (line.startsWith("## Promise ")) {
            return "promise " + line.substring(11, line.indexOf(':'));
        }
        if (line.startsWith("## ")) {
            return line.substring(3);
        }
        if (line.equals("The constants:")) {
            return "constants";
        }
        return SECTION.matcher(line).matches() ? "section " + line.charAt(0) : part;
    }

    /** Every quote stands in the document, and every sentence of a boundary case is quoted. */
    static void compareWith(List<Boundaries.Quote> quotes) {
        if (!Files.exists(FILE)) {
            System.out.println(FILE + " is not here: the quotes are not compared with it");
            return;
        }
        try {
            Document document = new Document(Files.readAllLines(FILE));
            document.findQuotes(quotes);
            document.findUntested(quotes);
        } catch (IOException e) {
            Check.fail(FILE + " cannot be read");
        }
    }

    private void findQuotes(List<Boundaries.Quote> quotes) {
        for (Boundaries.Quote quote : quotes) {
            List<String> lines = parts.getOrDefault(quote.part(), List.of());
            if (lines.stream().noneMatch(line -> line.contains(quote.words()))) {
                Check.fail(quote.part() + " does not say \"" + quote.words() + "\"");
            }
        }
    }

    private void findUntested(List<Boundaries.Quote> quotes) {
        for (Map.Entry<String, List<String>> part : parts.entrySet()) {
            for (String line : part.getValue()) {
                for (String sentence : sentencesToTest(part.getKey(), line)) {
                    if (!isQuoted(quotes, part.getKey(), sentence)) {
                        Check.fail(part.getKey() + " has no test of \"" + sentence + "\"");
                    }
                }
            }
        }
    }

    private static List<String> sentencesToTest(String part, String line) {
        boolean prose = part.startsWith("section ") && !SECTION.matcher(line).matches();
        boolean promise = part.startsWith("promise ") && !line.startsWith("## ")
                && !line.startsWith("`");
        List<String> sentences = new ArrayList<>();
        for (String sentence : SENTENCE_END.split(STEP.matcher(line).replaceFirst(""))) {
            boolean named = prose || promise && BOUNDARY.matcher(sentence).find();
            if (named && !sentence.isBlank()) {
                sentences.add(sentence.trim());
            }
        }
        return sentences;
    }

    private static boolean isQuoted(List<Boundaries.Quote> quotes, String part, String sentence) {
        return quotes.stream().anyMatch(quote -> quote.part().equals(part)
                && (sentence.contains(quote.words()) || quote.words().contains(sentence)));
    }
}
