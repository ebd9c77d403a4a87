import java.io.IOException;
import java.nio.file.Files;
import java.nio.file.Path;
import java.util.ArrayList;
import java.util.LinkedHashMap;
import java.util.List;
import java.util.Map;
import java.util.function.IntToLongFunction;
import java.util.function.Predicate;
import java.util.regex.Matcher;
import java.util.regex.Pattern;

/**
 * Tests that bear the words of the document. They are held against DOC.md: words that do not stand there are wrong,
 * and so is a sentence there that names a boundary and has no test.
 */
final class Sentences {
    private static final Pattern HEADING = Pattern.compile("(?:#+ )?(Promise [0-9]+|[A-Z]{4,}|What it is|The public face|Description|Not promised)(?::.*)?");
    private static final Pattern NO_WORDS = Pattern.compile("|`.*`|---- .*|#.*|The constructor and .*");
    private static final Pattern BOUNDARY = Pattern.compile("-?[0-9]+ to [0-9e]|\\b(" + String.join("|",
        "BAD", "STATE", "FULL", "LARGE", "NONE", "change", "changes", "at most", "at least", "less than", "greater", "greatest",
        "least", "longest", "latest", "oldest", "above", "negative", "from 1 on", "from 0 on", "rounds?", "rounded", "lowest",
        "empty", "Empties", "nothing", "none", "no", "without", "missing", "exists?", "all", "blanks", "the end", "ends",
        "also", "stays?", "in place of", "replacing", "kinds?", "otherwise") + ")\\b");

    private final Checks checks = new Checks();
    private final Map<String, List<String>> document = new LinkedHashMap<>();
    private final Map<String, List<String>> tested = new LinkedHashMap<>();
    private String part = "";
    private String sentence = "";

    Sentences(Path file) throws IOException {
        String open = "";
        for (String line : Files.readAllLines(file)) {
            Matcher heading = HEADING.matcher(line);
            if (heading.matches()) {
                open = heading.group(1);
            } else if (!NO_WORDS.matcher(line).matches()) {
                List<String> sentences = document.computeIfAbsent(open, name -> new ArrayList<>());
                sentences.addAll(List.of(line.split("(?<=[.;]) ")));
            }
        }
    }

    /** Opens a part of the document: a promise, or a section of the description. */
    void part(String name) {
        part = name;
        tested.computeIfAbsent(part, open -> new ArrayList<>());
        checks.holds("the document has the part " + part, document.containsKey(part));
    }

    /** Runs the test of a sentence, of which the words may be a piece. */
    void says(String words, Runnable test) {
        sentence = words;
        tested.get(part).add(words);
        boolean found = false;
        for (String told : document.getOrDefault(part, List.of())) {
            found |= told.contains(words);
        }
        checks.holds(part + " says: " + words, found);
        int before = checks.made();
        test.run();
        checks.holds(part + " has a test that checks something: " + words, checks.made() > before);
    }

    void due(String call, long got, long want) {
        checks.due(part + ", " + sentence + " - " + call, got, want);
    }

    /** The same answer is due for each of the arguments. */
    void each(String call, IntToLongFunction asked, long want, int... arguments) {
        for (int argument : arguments) {
            due(call + " with " + argument, asked.applyAsLong(argument), want);
        }
    }

    /** None of the arguments, from the least to the greatest, is refused as out of range. */
    void inRange(String call, IntToLongFunction asked, int least, int greatest) {
        for (int argument = least; argument <= greatest; argument++) {
            holds(call + " takes " + argument, asked.applyAsLong(argument) != StabilityAnalyzer.BAD);
        }
    }

    void holds(String what, boolean truth) {
        checks.holds(part + ", " + sentence + " - " + what, truth);
    }

    void readings(String what, StabilityAnalyzer x, int... phases) {
        checks.readings(part + ", " + sentence + " - " + what, x, phases);
    }

    /** Each sentence that names a boundary, in the parts that are asked for, must have had its test. */
    void close(Predicate<String> asked) {
        for (Map.Entry<String, List<String>> entry : document.entrySet()) {
            if (asked.test(entry.getKey())) {
                for (String told : entry.getValue()) {
                    checks.holds(entry.getKey() + " has no test for: " + told,
                        !BOUNDARY.matcher(told).find() || isTested(entry.getKey(), told));
                }
            }
        }
        checks.close();
    }

    private boolean isTested(String name, String told) {
        for (String words : tested.getOrDefault(name, List.of())) {
            if (told.contains(words)) {
                return true;
            }
        }
        return false;
    }
}
