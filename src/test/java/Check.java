import java.io.IOException;
import java.io.UncheckedIOException;
import java.nio.file.Files;
import java.nio.file.Path;
import java.util.Map;
import java.util.TreeMap;

/** Counts answers that are not as due; every test of the project ends by end(). */
final class Check {
    private static final Path DOCUMENT = Path.of("../shared/DOC.md");

    private Map<String, String> document;
    private String sentence = "";
    private int wrong;
    private int asked;

    /** The words of the document by which all answers from here on are due: they must stand there as quoted. */
    void says(String where, String words) {
        if (document == null) document = document();
        sentence = "[" + where + ": " + words + "] ";
        if (!document.isEmpty()) that("the document", document.getOrDefault(where, "").contains(words));
    }

    /** The document's text by "Terms 1", "Terms 2", "Promise 1" .. "Promise 36", with single blanks; empty if it is away. */
    private static Map<String, String> document() {
        if (!Files.exists(DOCUMENT)) return Map.of();
        String text;
        try {
            text = Files.readString(DOCUMENT).replaceAll("\\s+", " ");
        } catch (IOException e) {
            throw new UncheckedIOException(e);
        }
        Map<String, String> parts = new TreeMap<>();
        for (String part : text.split("(?=======+ [0-9] |## )")) {
            String name = part.replaceAll("^=+ ([0-9]) .*", "Terms $1").replaceAll("^## (Promise [0-9]+): .*", "$1");
            parts.put(name, part);
        }
        return parts;
    }

    void due(String call, long got, long want) {
        asked++;
        if (got == want) return;
        wrong++;
        System.out.println(sentence + call + " answered " + got + ", due is " + want);
    }

    void that(String what, boolean holds) {
        due(what, holds ? 1 : 0, 1);
    }

    void end() {
        System.out.println(asked + " answers, " + wrong + " not as due");
        if (wrong != 0) System.exit(1);
    }

    /** Feeds a text byte by byte in fives; the text's answer. */
    static int read(FlatToLet x, String text) {
        feed(x, text);
        return x.text();
    }

    static void feed(FlatToLet x, String text) {
        for (int i = 0; i < text.length(); i += 5) {
            int n = Math.min(5, text.length() - i);
            x.feed(n, byteAt(text, i), byteAt(text, i + 1), byteAt(text, i + 2), byteAt(text, i + 3), byteAt(text, i + 4));
        }
    }

    private static int byteAt(String text, int i) {
        return i < text.length() ? text.charAt(i) : 0;
    }

    /** A new object whose law reads so. */
    static FlatToLet under(String text) {
        FlatToLet x = new FlatToLet();
        law(x, text);
        return x;
    }

    /** A text is read and is the law from then on. */
    static void law(FlatToLet x, String text) {
        int t = read(x, text);
        if (t < 0 || x.force(t) < 0) throw new IllegalStateException("no law: " + text + " answered " + t);
    }

    /** A sheet of a sort becomes these numbers. */
    static void sheet(FlatToLet x, int s, int sort, int... cells) {
        x.sheet(s, sort, cells.length);
        for (int i = 0; i < cells.length; i++) {
            x.cell(s, i, cells[i]);
        }
    }

    static void lights(FlatToLet x, int... lights) {
        for (int r = 0; r < lights.length; r++) {
            x.room(r, 0, lights[r]);
        }
    }

    static void damps(FlatToLet x, int... damps) {
        for (int r = 0; r < damps.length; r++) {
            x.room(r, 1, damps[r]);
        }
    }
}
