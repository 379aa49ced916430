import java.io.IOException;
import java.io.UncheckedIOException;
import java.nio.file.Files;
import java.nio.file.Path;
import java.util.BitSet;
import java.util.List;
import java.util.TreeSet;
import java.util.function.Consumer;
import java.util.function.Supplier;
import java.util.regex.Matcher;
import java.util.regex.Pattern;

/** A sentence of the document that names a boundary case, and the test that holds it. */
final class Edge {
    private static final List<String> PARTS = List.of("What it is", "The public face", "Terms", "==== 2.", "==== 3.", "==== 4.");
    private static final int PROMISES = 44;
    private static final String DOC = document();
    private static final TreeSet<String> HELD = new TreeSet<>();
    /** Which signs of the document stand in a sentence that is held. */
    private static final BitSet QUOTED = new BitSet();
    /** What tells where one is in the document, and promises nothing. */
    private static final Pattern SIGNPOSTS = Pattern.compile("## Promise \\d+: [\\w ]+`[^`]*`:|## Terms|```(text)?|==== \\d\\.");
    private static int sentences;

    private Edge() { }

    private static String document() {
        try {
            return plain(Files.readString(Path.of("../shared/DOC.md")));
        } catch (IOException e) {
            throw new UncheckedIOException(e);
        }
    }

    private static String plain(String text) {
        return text.replaceAll("\\s+", " ");
    }

    private static String startOf(String part) {
        if (part.startsWith("====")) {
            return part;
        }
        return part.startsWith("Promise") ? "## " + part + ":" : "## " + part;
    }

    private static String behind(String part) {
        int at = PARTS.indexOf(part);
        if (at >= 0 && at + 1 < PARTS.size()) {
            return startOf(PARTS.get(at + 1));
        }
        return at >= 0 ? "## Promise 1:" : "## ";
    }

    /** The document's words from a part's heading up to the next one. */
    private static String wordsOf(String part) {
        int start = DOC.indexOf(startOf(part));
        if (start < 0) {
            return "";
        }
        int end = DOC.indexOf(behind(part), start + 3);
        return DOC.substring(start, end < 0 ? DOC.length() : end);
    }

    /** The sentence stands in the promise's own part of the document. */
    static void holds(int promise, String sentence, Runnable test) {
        holds(promise, "Promise " + promise, sentence, test);
    }

    /** The sentence, which a promise calls on, stands in that part of the document, and the test, its own one, holds it. */
    static void holds(int promise, String part, String sentence, Runnable test) {
        Hall.about("promise " + promise + ", " + part + " \"" + sentence + "\": ");
        Hall.due("the document says so, which", wordsOf(part).contains(plain(sentence)), true);
        quote(part, plain(sentence));
        Hall.due("held once alone, which", HELD.add(part + sentence), true);
        int before = Hall.looked();
        try {
            test.run();
        } catch (RuntimeException e) {
            Hall.due("thrown: " + e + ", which", true, false);
        }
        Hall.due("looked at, which", Hall.looked() > before, true);
        HELD.add(part);
        sentences++;
        Hall.about("");
    }

    private static void quote(String part, String sentence) {
        int at = wordsOf(part).indexOf(sentence);
        if (at >= 0) {
            int start = DOC.indexOf(startOf(part)) + at;
            QUOTED.set(start, start + sentence.length());
        }
    }

    /** Every promise has a sentence that is held, and no word from the terms to the last promise is left out. */
    static void end() {
        for (int promise = 1; promise <= PROMISES; promise++) {
            String part = "Promise " + promise;
            Hall.due(part + " has a sentence that is held, which", HELD.contains(part), true);
        }
        lookForWordsLeftOut();
        System.out.println(sentences + " sentences held");
        Hall.end();
    }

    private static void lookForWordsLeftOut() {
        Matcher signpost = SIGNPOSTS.matcher(DOC);
        while (signpost.find()) {
            QUOTED.set(signpost.start(), signpost.end());
        }
        int last = DOC.indexOf("## Not promised");
        int left = QUOTED.nextClearBit(DOC.indexOf("## Terms"));
        while (left < last) {
            int next = QUOTED.nextSetBit(left);
            int end = next < 0 || next > last ? last : next;
            String words = DOC.substring(left, end);
            Hall.due("no sentence that is held says \"" + words.trim() + "\", which", words.matches("[ ,.:;]*"), true);
            left = QUOTED.nextClearBit(end + 1);
        }
    }

    /** Of two halls that are made alike, what is called on the second one leaves it as the first one is. */
    static void leaves(String call, Supplier<KnobHall> made, Consumer<KnobHall> called) {
        leaves(call, made, called, false);
    }

    /** But for the tape and the FAULT. */
    static void leavesButTape(String call, Supplier<KnobHall> made, Consumer<KnobHall> called) {
        leaves(call, made, called, true);
    }

    private static void leaves(String call, Supplier<KnobHall> made, Consumer<KnobHall> called, boolean butTape) {
        KnobHall one = made.get();
        KnobHall other = made.get();
        called.accept(other);
        List<String> before = new Portrait(one).whole(butTape);
        List<String> behind = new Portrait(other).whole(butTape);
        int unlike = 0;
        for (int i = 0; i < Math.min(before.size(), behind.size()) && unlike == 0; i++) {
            if (!before.get(i).equals(behind.get(i))) {
                unlike = 1;
                System.out.println(call + " changed " + before.get(i) + " to " + behind.get(i));
            }
        }
        Hall.due(call + " changes nothing, which", unlike == 0 && before.size() == behind.size(), true);
    }
}
