import java.io.IOException;
import java.io.UncheckedIOException;
import java.nio.file.Files;
import java.nio.file.Path;
import java.util.ArrayList;
import java.util.HashSet;
import java.util.LinkedHashMap;
import java.util.List;
import java.util.Map;
import java.util.Set;

/** A sentence of the document, quoted; what its test prints begins with the promise or the section,
    and the sentence. */
final class Sentence {
    interface Maker {
        FlyTreasury make();
    }

    interface Call {
        Object on(FlyTreasury x);
    }

    /** The lines under each heading; the heading of a promise is shortened to its number. */
    private static final Map<String, List<String>> SECTIONS = sections();
    private static final Set<String> TESTED = new HashSet<>();

    private static String latest = "";

    private final String name;

    private Sentence(String heading, String text) {
        name = named(heading, text);
        latest = name;
        String section = String.join(" ", SECTIONS.getOrDefault(heading, List.of()));
        Check.same(name + " stands in the document", section.contains(text), true);
        TESTED.add(name);
    }

    /** A test may end with an exception, since a call that it begins with was refused; the others run all the same. */
    static void testEach(Runnable... tests) {
        for (Runnable test : tests) {
            try {
                test.run();
            } catch (RuntimeException e) {
                Check.same(latest + ": its test", "ended with " + e + " at " + e.getStackTrace()[0], "its end");
            }
        }
    }

    static Sentence ofPromise(int number, String text) {
        return new Sentence("Promise " + number, text);
    }

    /** The heading is one of the document's that bears no number. */
    static Sentence ofSection(String heading, String text) {
        return new Sentence(heading, text);
    }

    void same(String what, Object got, Object due) {
        Check.same(name + ": " + what, got, due);
    }

    void fails(String what, Class<? extends RuntimeException> due, Check.Call call) {
        Check.fails(name + ": " + what, due, call);
    }

    void answers(String what, Maker made, Call call, Object due) {
        FlyTreasury x = made.make();
        same(what, Check.outcome(() -> call.on(x)), due);
    }

    /** The call must throw this and change nothing, which a second object shows that was made without the call. */
    void refuses(String what, Maker made, Class<? extends RuntimeException> due, Call call) {
        FlyTreasury x = made.make();
        fails(what, due, () -> call.on(x));
        same(what + ", what is seen afterwards", Trace.of(x), Trace.of(made.make()));
    }

    /** Each promise has a sentence that is tested here, and each sentence that tells when it throws is one of them. */
    static void checkThatNoneIsMissing() {
        for (Map.Entry<String, List<String>> section : SECTIONS.entrySet()) {
            String heading = section.getKey();
            boolean tested = TESTED.stream().anyMatch(name -> name.startsWith(heading + ": "));
            Check.same(heading + " is tested", tested || !heading.startsWith("Promise "), true);
            for (String line : section.getValue()) {
                boolean missing = line.startsWith("Throws ") && !TESTED.contains(named(heading, line));
                Check.same(named(heading, line) + " is missing", missing, false);
            }
        }
    }

    private static String named(String heading, String text) {
        return heading + ": \"" + text + "\"";
    }

    private static Map<String, List<String>> sections() {
        Map<String, List<String>> sections = new LinkedHashMap<>();
        String heading = "";
        for (String line : lines()) {
            if (line.startsWith("## ") || line.startsWith("<h2>")) {
                heading = line.replaceAll("## |</?h2>", "").replaceAll("^(Promise [0-9]+):.*", "$1");
            } else if (!line.isEmpty()) {
                sections.computeIfAbsent(heading, none -> new ArrayList<>()).add(line);
            }
        }
        return sections;
    }

    private static List<String> lines() {
        try {
            return Files.readAllLines(Path.of("../shared/DOC.md"));
        } catch (IOException e) {
            throw new UncheckedIOException(e);
        }
    }
}
