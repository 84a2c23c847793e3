import java.io.IOException;
import java.io.UncheckedIOException;
import java.nio.charset.StandardCharsets;
import java.nio.file.Files;
import java.nio.file.Path;
import java.util.LinkedHashMap;
import java.util.Map;
import java.util.regex.Matcher;
import java.util.regex.Pattern;

/**
 * One sentence of the document at a time: it must stand there in these words, and what is asked next is told with it
 * and with the promise's number. allTold() finds the edges that no sentence has told.
 */
final class Edge {
    /** Words that name an edge: bounds, refusals, what is cut, empty, alike, missing. */
    private static final Pattern EDGES = Pattern.compile("\\d \\.\\. \\d+|, \\.\\. \\d+|\\bBAD\\b|\\bFULL\\b(?! AT)|\\bSTATE\\b"
            + "|\\bNO\\b|-\\d+|\\bNONE\\b|at most|at least|at first|above \\d+|below \\d+|is above|is below|never|too long|too early"
            + "|wrapping|\\bnone\\b|\\bcut\\b|fewer than|modulo|missing|of like ones|lowest terms|no less|the bound|lowest \\d"
            + "|pass \\d+|nothing|No HANDS|empty");

    private static final Map<String, String> PLACES = new LinkedHashMap<>();
    private static final Map<String, boolean[]> TOLD = new LinkedHashMap<>();
    private static String sentence = "";

    private Edge() {
    }

    private static void readDocument() {
        String document;
        try {
            document = Files.readString(Path.of("../shared/DOC.md"), StandardCharsets.UTF_8);
        } catch (IOException e) {
            throw new UncheckedIOException(e);
        }
        Matcher promise = Pattern.compile("(?s)## Promise (\\d+): [^\n]+\n(.*?)(?=\n## )").matcher(document);
        while (promise.find()) PLACES.put(promise.group(1), promise.group(2));
        String terms = document.substring(document.indexOf("## Terms"), document.indexOf("Ahead of the calls"));
        for (String line : terms.split("\n")) {
            String bare = line.replaceFirst("^[= 0-9]*", "");
            Matcher first = Pattern.compile("^(?:THE |AN? )?[A-Z]{3,}S?").matcher(bare);
            if (first.find()) PLACES.put(first.group(), bare);
        }
    }

    /** A promise's own sentence. */
    static void of(int promise, String words) {
        tell(promise, "" + promise, words);
    }

    /** A sentence of the terms, by its line's first words, that shows in a promise. */
    static void of(int promise, String line, String words) {
        tell(promise, line, words);
    }

    private static void tell(int promise, String place, String words) {
        if (PLACES.isEmpty()) readDocument();
        sentence = "promise " + promise + ", '" + words + "': ";
        String text = PLACES.getOrDefault(place, "");
        boolean[] told = TOLD.computeIfAbsent(place, p -> new boolean[text.length()]);
        int at = text.indexOf(words);
        Due.due(sentence + "stands in the document", at < 0 ? 0 : 1, 1);
        for (; at >= 0; at = text.indexOf(words, at + 1)) {
            for (int i = 0; i < words.length(); i++) told[at + i] = true;
        }
    }

    static void due(String call, long got, long want) {
        Due.due(sentence + call, got, want);
    }

    static void dueBoth(String call, long gotAbove, long gotBelow, long above, long below) {
        Due.dueBoth(sentence + call, gotAbove, gotBelow, above, below);
    }

    /** Too small and too large, by one and by far. */
    static int[] beside(int least, int most) {
        return new int[] {least - 1, most + 1, Integer.MIN_VALUE, Integer.MAX_VALUE};
    }

    /** Each edge of these places has been told by a sentence. */
    static void allTold(String... places) {
        if (PLACES.isEmpty()) readDocument();
        sentence = "";
        for (String place : places) {
            String text = PLACES.getOrDefault(place, "");
            Due.due("the document has a place " + place, text.isEmpty() ? 0 : 1, 1);
            boolean[] told = TOLD.computeIfAbsent(place, p -> new boolean[text.length()]);
            Matcher edge = EDGES.matcher(text);
            while (edge.find()) {
                boolean all = true;
                for (int i = edge.start(); i < edge.end(); i++) all = all && told[i];
                String around = text.substring(Math.max(0, edge.start() - 30), Math.min(text.length(), edge.end() + 20));
                Due.due(place + ", told: .." + around + "..", all ? 1 : 0, 1);
            }
        }
    }

    /** The promises from one to another, and these lines of the terms. */
    static void allTold(int from, int to, String... lines) {
        for (int promise = from; promise <= to; promise++) allTold("" + promise);
        allTold(lines);
    }
}
