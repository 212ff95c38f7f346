import java.io.IOException;
import java.nio.file.Files;
import java.nio.file.Path;
import java.util.LinkedHashMap;
import java.util.Map;

/**
 * What the tests of the document's sentences share. Each sentence is told word by word as the document has
 * it, and has answers of its own; at the end no sentence may be left untold.
 */
abstract class Edges {
    static final int LOW = Integer.MIN_VALUE, HIGH = Integer.MAX_VALUE;
    static final int NONE = -1, BAD = -2, STATE = -3, FULL = -4, NEVER = -5;
    static final int NOTHING = -11, CAST = -12, PLACE = -13, SIZE = -14, NONE_BELOW = -10001;
    static final long NO = Long.MIN_VALUE;

    private static final Path DOCUMENT = Path.of("../shared/DOC.md");
    private static final Map<String, String> untold = read();
    private static String part = "";
    private static String sentence = "";
    private static int sentences;
    private static int answers;
    private static int wrong;

    // ---- the document

    /** By their names: Terms 1, Terms 2, Terms 3, Promise 1 .. */
    private static Map<String, String> read() {
        Map<String, String> parts = new LinkedHashMap<>();
        for (String chapter : document().split("(?m)^## ")) {
            int end = chapter.indexOf('\n');
            if (end < 0) continue;
            String name = chapter.substring(0, end).replaceAll(":.*", "");
            String text = plain(chapter.substring(end));
            if (!name.equals("Terms")) parts.put(name, text);
            else cutTerms(text.split("==== "), parts);
        }
        return parts;
    }

    private static void cutTerms(String[] texts, Map<String, String> parts) {
        for (int i = 0; i < texts.length; i++) parts.put("Terms " + (i + 1), texts[i]);
    }

    private static String document() {
        try {
            return Files.readString(DOCUMENT);
        } catch (IOException e) {
            throw new IllegalStateException("there is no " + DOCUMENT);
        }
    }

    private static String plain(String text) {
        return text.replaceAll("Ahead of the calls [^\n]*", " ").replaceAll("```(text|java)?", " ")
            .replaceAll("\\s+", " ");
    }

    static void part(String name) {
        part = name;
        if (!untold.containsKey(name)) fail("the document has no part " + name);
    }

    /** What follows is asked by these words of the document. */
    static void sentence(String words) {
        endSentence();
        sentence = words;
        sentences++;
        String text = untold.getOrDefault(part, "");
        int at = text.indexOf(words);
        if (at < 0) fail("the document does not say so");
        else untold.put(part, text.substring(0, at) + " " + text.substring(at + words.length()));
    }

    private static void endSentence() {
        if (sentences > 0 && answers == 0) fail("no answer is asked by this");
        answers = 0;
    }

    /** In these parts no sentence may be left that no test tells. */
    static void end(String... parts) {
        endSentence();
        for (String name : parts) {
            part(name);
            sentence = "";
            String left = untold.getOrDefault(name, "").replaceAll("`[^`]*`", "").replaceAll("^[23] ", "");
            if (left.matches(".*\\w.*")) fail("no test tells:" + left);
        }
        System.out.println(sentences + " sentences, " + (wrong == 0 ? "all hold" : wrong + " answers are not as due"));
        if (wrong > 0) System.exit(1);
    }

    private static void fail(String how) {
        wrong++;
        System.out.println(part + ": \"" + sentence + "\": " + how);
    }

    // ---- answers

    static void due(String call, long got, long want) {
        answers++;
        if (got != want) fail(call + " answered " + got + ", due is " + want);
    }

    static void due(String call, String got, String want) {
        answers++;
        if (!got.equals(want)) fail(call + ":\n  is  " + got + "\n  due " + want);
    }

    interface Call {
        long of(GlobeCorner g);
    }

    interface CallWith {
        long of(int n);
    }

    /** Each of these numbers has the same answer. */
    static void dueOfEach(String call, CallWith asked, long want, int... numbers) {
        for (int n : numbers) due(call + " with " + n, asked.of(n), want);
    }

    // ---- objects

    /** Children of these kinds, each with v 5. */
    static GlobeCorner kids(int... kinds) {
        GlobeCorner g = new GlobeCorner();
        for (int kind : kinds) g.child(kind, 5);
        return g;
    }

    static GlobeCorner taught(String text, int... kinds) {
        GlobeCorner g = kids(kinds);
        int school = school(g, text);
        if (school != 0) fail("\"" + text + "\" is no school: " + school);
        return g;
    }

    static void feed(GlobeCorner g, String text) {
        for (int i = 0; i < text.length(); i++) g.feed(text.charAt(i));
    }

    static int school(GlobeCorner g, String text) {
        feed(g, text);
        return g.school();
    }

    static void passTo(GlobeCorner g, int hour) {
        for (int left = hour - g.told(0); left > 0; left -= 60) g.pass(Math.min(60, left));
    }

    static void needAll(GlobeCorner g, int n) {
        for (int p = 0; p < 12; p++) g.need(p, n);
    }
}
