import java.io.IOException;
import java.io.UncheckedIOException;
import java.nio.file.Files;
import java.nio.file.Path;
import java.util.ArrayList;
import java.util.HashMap;
import java.util.HashSet;
import java.util.LinkedHashMap;
import java.util.List;
import java.util.Map;
import java.util.Set;
import java.util.regex.Pattern;

/** Words of the document, quoted, mostly one sentence; what their test prints begins with the promise or the section,
    and the words. */
final class Sentence {
    interface Maker {
        FlyTreasury make();
    }

    interface Call {
        Object on(FlyTreasury x);
    }

    /** The lines under each heading; the heading of a promise is shortened to its number. */
    private static final Map<String, List<String>> SECTIONS = sections();
    private static final Map<String, Set<String>> QUOTED = new HashMap<>();

    private static String latest = "";

    private final String name;

    private Sentence(String heading, String text) {
        name = named(heading, text);
        latest = name;
        String section = String.join(" ", SECTIONS.getOrDefault(heading, List.of()));
        Check.same(name + " stands in the document", section.contains(text), true);
        QUOTED.computeIfAbsent(heading, none -> new HashSet<>()).add(text);
    }

    /** A test may end with an exception, since a call that it begins with was refused; the others run all the same. */
    static void testEach(Runnable... tests) {
        for (Runnable test : tests) {
            try {
                test.run();
            } catch (RuntimeException e) {
                Check.same(latest + ": its test", "ended with " + e + " at " + e.getStackTrace()[0], "its end");
            }
        }
    }

    static Sentence ofPromise(int number, String text) {
        return new Sentence("Promise " + number, text);
    }

    /** The heading is one of the document's that bears no number. */
    static Sentence ofSection(String heading, String text) {
        return new Sentence(heading, text);
    }

    void same(String what, Object got, Object due) {
        Check.same(name + ": " + what, got, due);
    }

    void fails(String what, Class<? extends RuntimeException> due, Check.Call call) {
        Check.fails(name + ": " + what, due, call);
    }

    void answers(String what, Maker made, Call call, Object due) {
        FlyTreasury x = made.make();
        same(what, Check.outcome(() -> call.on(x)), due);
    }

    /** The call must throw this and change nothing, which a second object shows that was made without the call. */
    void refuses(String what, Maker made, Class<? extends RuntimeException> due, Call call) {
        FlyTreasury x = made.make();
        fails(what, due, () -> call.on(x));
        same(what + ", what is seen afterwards", Trace.of(x), Trace.of(made.make()));
    }

    /** For words that bind no call: an outlook on what follows, or what the document leaves free. */
    static void withoutTest(String heading, String text) {
        new Sentence(heading, text);
    }

    static List<String> linesOf(String heading) {
        return SECTIONS.getOrDefault(heading, List.of());
    }

    /** Every word of the document stands in a quotation, and a sentence that tells when it throws in one of its own. */
    static void checkThatNoneIsMissing() {
        for (Map.Entry<String, List<String>> section : SECTIONS.entrySet()) {
            String heading = section.getKey();
            for (String words : unquoted(String.join(" ", section.getValue()), heading)) {
                Check.same(named(heading, words), "not tested", "tested");
            }
            for (String line : section.getValue()) {
                boolean missing = line.startsWith("Throws ") && !quotesOf(heading).contains(line);
                Check.same(named(heading, line) + " is missing", missing, false);
            }
        }
    }

    /** The pieces of the text that no quotation covers, but for those without a letter or a digit. */
    private static List<String> unquoted(String text, String heading) {
        StringBuilder rest = new StringBuilder(text);
        for (String quote : quotesOf(heading)) {
            for (int at = text.indexOf(quote); at >= 0; at = text.indexOf(quote, at + 1)) {
                rest.replace(at, at + quote.length(), "\n".repeat(quote.length()));
            }
        }
        return Pattern.compile("\n+").splitAsStream(rest).filter(words -> words.matches(".*[A-Za-z0-9].*")).toList();
    }

    private static Set<String> quotesOf(String heading) {
        return QUOTED.getOrDefault(heading, Set.of());
    }

    private static String named(String heading, String text) {
        return heading + ": \"" + text + "\"";
    }

    private static Map<String, List<String>> sections() {
        Map<String, List<String>> sections = new LinkedHashMap<>();
        String heading = "";
        for (String line : lines()) {
            if (line.startsWith("#") || line.startsWith("<h2>")) {
                heading = line.replaceAll("#+ |</?h2>", "").replaceAll("^(Promise [0-9]+):.*", "$1");
            } else if (!line.isEmpty()) {
                sections.computeIfAbsent(heading, none -> new ArrayList<>()).add(line);
            }
        }
        return sections;
    }

    private static List<String> lines() {
        try {
            return Files.readAllLines(Path.of("../shared/DOC.md"));
        } catch (IOException e) {
            throw new UncheckedIOException(e);
        }
    }
}
