import java.io.IOException;
import java.nio.charset.StandardCharsets;
import java.nio.file.Files;
import java.nio.file.Path;
import java.util.Map;
import java.util.TreeMap;
import java.util.regex.Matcher;
import java.util.regex.Pattern;

/**
 * The document's own words. A test names the sentence that it holds the program to: that sentence must
 * stand in the document, and of each promise, of the terms, of the face and of the first lines every word
 * must be named by some test.
 */
final class Told {
    static final int FIRST_LINES = -2;
    static final int FACE = -1;
    static final int TERMS = 0;
    private static final Path DOCUMENT = Path.of("../shared/DOC.md");
    private static final Map<Integer, String> SECTIONS = sections();
    private static final Map<Integer, boolean[]> NAMED = new TreeMap<>();
    private static String label = "";

    private Told() {
    }

    private static Map<Integer, String> sections() {
        Map<Integer, String> sections = new TreeMap<>();
        String text = wholeDocument();
        sections.put(FIRST_LINES, between(text, "## What it is", "## The public face"));
        sections.put(FACE, between(text, "## The public face", "## Terms"));
        Matcher heads = Pattern.compile("## Promise (\\d+): \\w+( \\w+)* `[^`]*`: ").matcher(text);
        int promise = TERMS;
        int begin = text.indexOf("## Terms") + "## Terms".length();
        while (heads.find()) {
            sections.put(promise, text.substring(begin, heads.start()));
            promise = Integer.parseInt(heads.group(1));
            begin = heads.end();
        }
        sections.put(promise, text.substring(begin, text.indexOf("## Not promised")));
        return sections;
    }

    private static String between(String text, String head, String next) {
        return text.substring(text.indexOf(head) + head.length(), text.indexOf(next));
    }

    /** Without line ends, and without the fences of blocks, which are no words of the document. */
    private static String wholeDocument() {
        try {
            return Files.readString(DOCUMENT, StandardCharsets.UTF_8)
                    .replaceAll("```\\w*", "").replaceAll("\\s+", " ");
        } catch (IOException e) {
            throw new IllegalStateException(e);
        }
    }

    /** What follows is about these words of a promise. */
    static void promise(int promise, String words) {
        String section = SECTIONS.getOrDefault(promise, "");
        int at = section.indexOf(words);
        label = promise + " '" + words + "': ";
        Check.due(label + "stands in the document", at >= 0, true);
        boolean[] named = NAMED.computeIfAbsent(promise, p -> new boolean[section.length()]);
        for (int i = Math.max(at, 0); at >= 0 && i < at + words.length(); i++) {
            named[i] = true;
        }
    }

    /** What follows is about these words ahead of the promises. */
    static void terms(String words) {
        promise(SECTIONS.get(FIRST_LINES).contains(words) ? FIRST_LINES : TERMS, words);
    }

    /** The face's block, a declaration each, as the document writes it. */
    static String[] face() {
        String block = SECTIONS.get(FACE);
        return block.substring(block.indexOf('{') + 1, block.lastIndexOf('}')).trim().split("\\s*;\\s*");
    }

    static void due(String call, long got, long want) {
        Check.due(label + call, got, want);
    }

    static void due(String call, boolean got, boolean want) {
        Check.due(label + call, got, want);
    }

    static void same(String call, String got, String want) {
        Check.due(label + call + ": " + got + " | " + want, got.equals(want), true);
    }

    static void fault(int sort, String text, int want) {
        HushWatch watch = new HushWatch();
        Check.tape(watch, text);
        due("fault(" + sort + ") of '" + text + "'", watch.fault(sort), want);
    }

    /** Everything that can be seen of an object, so that two of them can be set side by side. */
    static String seen(HushWatch w) {
        StringBuilder seen = new StringBuilder();
        for (int what = 0; what < 12; what++) {
            seen.append(' ').append(w.most(what)).append(' ').append(w.all(what)).append(' ').append(w.held(what))
                    .append(' ').append(w.rule(what)).append(' ').append(w.count(what));
        }
        int sites = w.held(0);
        for (int site = 0; site < sites; site++) {
            seen.append(" /");
            for (int what = 0; what < 14; what++) {
                seen.append(' ').append(w.site(site, what));
            }
        }
        int logged = w.held(3);
        for (int i = 0; i < logged; i++) {
            seen.append(" log ").append(w.log(i, 0)).append(' ').append(w.log(i, 1)).append(' ').append(w.log(i, 2));
        }
        return seen.toString();
    }

    /** Ends a test of these sections (promises by their numbers): no word of theirs may be without one. */
    static void finish(String test, int first, int last) {
        for (int promise = first; promise <= last; promise++) {
            String section = SECTIONS.getOrDefault(promise, "");
            boolean[] named = NAMED.getOrDefault(promise, new boolean[section.length()]);
            StringBuilder left = new StringBuilder();
            for (int i = 0; i < section.length(); i++) {
                left.append(named[i] || !Character.isLetterOrDigit(section.charAt(i)) ? "" : section.charAt(i));
            }
            Check.due("section " + promise + ", words without a test: " + left, left.length(), 0);
            Check.due("section " + promise + " stands in the document", section.isEmpty(), false);
        }
        Check.finish(test);
    }
}
