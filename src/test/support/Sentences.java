import java.io.IOException;
import java.io.UncheckedIOException;
import java.nio.file.Files;
import java.nio.file.Path;
import java.util.ArrayList;
import java.util.LinkedHashMap;
import java.util.List;
import java.util.Map;
import java.util.regex.Matcher;
import java.util.regex.Pattern;

/**
 * The document, sentence by sentence: each one under the headings in charge has to be quoted with a test of its own, or read as one
 * that names no boundary. A sentence of the document that changes, or a new one, is therefore missed here.
 */
public final class Sentences {
    private static final Path DOCUMENT = Path.of("../shared/DOC.md");
    private static final Pattern PROMISE = Pattern.compile("## (Promise \\d+):.*");
    private static final Pattern PARAGRAPH_OF_TERMS = Pattern.compile("((?:The )?[A-Za-z]+)[.:](?: .*)?");
    private static final Pattern SIGNATURE_OR_TITLE = Pattern.compile("`[^`]*`:|(The )?[A-Za-z]+[.:]");
    /** What their edges are, the sentence behind "Throws" says. */
    private static final Pattern ANY_THING = Pattern.compile("- `\\w+`: the number of a(nother)? (place|balloon|parcel)");
    private static final Pattern ORDER_OF_THE_FACE = Pattern.compile("Ahead of the calls .*");

    private final Checks checks;
    private final Map<String, List<String>> unread = new LinkedHashMap<>();
    private final Map<String, List<String>> read = new LinkedHashMap<>();
    private String heading = "";

    /** In charge of what stands from the first heading on and in front of the other one; of the rest if that is null. */
    public Sentences(Checks checks, String first, String behind) {
        this.checks = checks;
        boolean inCharge = false;
        for (Map.Entry<String, List<String>> part : partsOfTheDocument().entrySet()) {
            inCharge = (inCharge || part.getKey().equals(first)) && !part.getKey().equals(behind);
            if (inCharge) {
                unread.put(part.getKey(), part.getValue());
                read.put(part.getKey(), new ArrayList<>());
            }
        }
    }

    public void under(String newHeading) {
        heading = newHeading;
        checks.sameText("heading", unread.containsKey(heading) ? heading : "missing", heading);
    }

    /** A sentence may be quoted several times, with a test for each of its cases. */
    public void test(String sentence, Runnable test) {
        markAsRead(sentence);
        int before = checks.made();
        test.run();
        checks.same("no check for: " + sentence, checks.made() == before ? 1 : 0, 0);
    }

    public void namesNoBoundary(String... sentences) {
        for (String sentence : sentences) {
            markAsRead(sentence);
        }
    }

    public void finish() {
        for (Map.Entry<String, List<String>> part : unread.entrySet()) {
            checks.sameText("sentences without a test under " + part.getKey(), String.join("\n", part.getValue()), "");
        }
        checks.finish();
    }

    private void markAsRead(String sentence) {
        boolean known = unread.containsKey(heading);
        if (known && unread.get(heading).remove(sentence)) {
            read.get(heading).add(sentence);
        }
        boolean found = known && read.get(heading).contains(sentence);
        checks.sameText("sentence under " + heading, found ? sentence : "missing", sentence);
    }

    // ---- cutting the document

    private static Map<String, List<String>> partsOfTheDocument() {
        Map<String, List<String>> parts = new LinkedHashMap<>();
        List<String> part = new ArrayList<>();
        boolean terms = false;
        boolean code = false;
        for (String line : lines()) {
            Matcher paragraph = PARAGRAPH_OF_TERMS.matcher(line);
            code ^= line.startsWith("```");
            if (line.startsWith("## ")) {
                terms = line.equals("## Terms");
                part = new ArrayList<>();
                parts.put(nameOf(line), part);
            } else if (!code && !line.isEmpty() && !line.startsWith("```") && !line.startsWith("# ")) {
                if (terms && paragraph.matches()) {
                    part = new ArrayList<>();
                    parts.put("Terms: " + paragraph.group(1), part);
                }
                addSentences(line, part);
            }
        }
        return parts;
    }

    private static List<String> lines() {
        try {
            return Files.readAllLines(DOCUMENT);
        } catch (IOException e) {
            throw new UncheckedIOException(e);
        }
    }

    private static String nameOf(String headingLine) {
        Matcher promise = PROMISE.matcher(headingLine);
        return promise.matches() ? promise.group(1) : headingLine.substring(3);
    }

    private static void addSentences(String line, List<String> part) {
        if (ANY_THING.matcher(line).matches() || ORDER_OF_THE_FACE.matcher(line).matches()) {
            return;
        }
        if (line.startsWith("- ")) {
            part.add(line.substring(2));
            return;
        }
        int from = 0;
        boolean quoted = false;
        for (int i = 0; i < line.length(); i++) {
            quoted ^= line.charAt(i) == '"';
            boolean ends = i == line.length() - 1 || ".;:".indexOf(line.charAt(i)) >= 0 && line.charAt(i + 1) == ' ';
            if (ends && !quoted) {
                addUnlessTitle(line.substring(from, i + 1).strip(), part);
                from = i + 1;
            }
        }
    }

    private static void addUnlessTitle(String sentence, List<String> part) {
        if (!SIGNATURE_OR_TITLE.matcher(sentence).matches()) {
            part.add(sentence);
        }
    }
}
