import java.io.IOException;
import java.nio.file.Files;
import java.nio.file.Path;
import java.util.ArrayList;
import java.util.Arrays;
import java.util.List;
import java.util.Map;
import java.util.TreeMap;

/**
 * The document as the tests of its sentences need it: each test names its promise and quotes the sentence that it
 * holds the class to. A quote that the document does not have, or a sentence that no test quotes, is a fault.
 */
final class Book {
    private static final String DESCRIPTION = "## Description";
    private static final String PROMISE = "## Promise ";

    private final String common;
    private final Map<Integer, List<String>> promises = new TreeMap<>();
    private final Map<Integer, List<String>> quotes = new TreeMap<>();
    private String test = "no test";
    private int tests;
    private int asked;
    private int wrong;

    Book(Path document) throws IOException {
        StringBuilder description = new StringBuilder();
        List<String> lines = new ArrayList<>();
        String part = "";
        for (String line : Files.readAllLines(document)) {
            if (line.startsWith("## ")) {
                part = line;
                lines = new ArrayList<>();
                if (line.startsWith(PROMISE)) {
                    int number = Integer.parseInt(line.substring(PROMISE.length(), line.indexOf(':')));
                    promises.put(number, lines);
                    quotes.put(number, new ArrayList<>());
                }
            } else if (part.equals(DESCRIPTION)) {
                description.append(plain(line)).append(' ');
            } else if (!line.isBlank()) {
                lines.add(plain(line));
            }
        }
        common = plain(description.toString());
    }

    private static String plain(String text) {
        return text.replace("`", "").replaceAll("\\s+", " ").strip();
    }

    // ---- tests ----

    /** Runs the test of a sentence that a promise, or the description for it, has. */
    void test(int promise, String sentence, Runnable asks) {
        String quote = plain(sentence);
        tests++;
        test = "Promise " + promise + ", \"" + quote + "\"";
        boolean isThere = common.contains(quote);
        for (String line : promises.get(promise)) {
            isThere |= line.contains(quote);
        }
        if (!isThere) {
            fault("is not in the document");
        }
        quotes.get(promise).add(quote);
        int before = asked;
        try {
            asks.run();
        } catch (RuntimeException | StackOverflowError e) {
            fault("ends with " + e);
        }
        if (asked == before) {
            fault("asks nothing");
        }
    }

    void is(String what, long got, long due) {
        asked++;
        if (got != due) {
            fault(what + " is " + got + ", due is " + due);
        }
    }

    void is(String what, boolean got, boolean due) {
        is(what, got ? 1 : 0, due ? 1 : 0);
    }

    void is(String what, String got, String due) {
        asked++;
        if (!got.equals(due)) {
            fault(what + " is " + got + ", due is " + due);
        }
    }

    /** The exception is of just this class, not of one below it: those the machine throws. */
    void fails(String what, Class<?> kind, Runnable call) {
        asked++;
        try {
            call.run();
        } catch (RuntimeException e) {
            if (e.getClass() != kind) {
                fault(what + " throws " + e + ", due is " + kind);
            }
            return;
        }
        fault(what + " throws nothing, due is " + kind);
    }

    private void fault(String what) {
        wrong++;
        System.out.println(test + ": " + what);
    }

    // ---- the end ----

    /** Each clause of what a promise returns and throws, and each parameter with a range, must have a test. */
    private void needQuotes() {
        for (Map.Entry<Integer, List<String>> promise : promises.entrySet()) {
            test = "Promise " + promise.getKey();
            if (quotes.get(promise.getKey()).isEmpty()) {
                fault("has no test");
            }
            for (String clause : clauses(promise.getValue())) {
                if (quotes.get(promise.getKey()).stream().noneMatch(q -> q.contains(clause) || clause.contains(q))) {
                    fault("no test of \"" + clause + "\"");
                }
            }
        }
    }

    /** Each sentence of the description, and each that tells what a promise does, must be touched by a quote. */
    private void needSentences() {
        List<String> all = new ArrayList<>();
        quotes.values().forEach(all::addAll);
        test = "Description";
        needTouched(common.substring(0, common.indexOf("The constants:")), all);
        for (Map.Entry<Integer, List<String>> promise : promises.entrySet()) {
            test = "Promise " + promise.getKey();
            List<String> lines = promise.getValue();
            for (String line : lines.subList(1, lines.size())) {
                if (!line.startsWith("- ")) {
                    needTouched(line, quotes.get(promise.getKey()));
                }
            }
        }
    }

    private void needTouched(String text, List<String> touching) {
        boolean[] isTouched = new boolean[text.length()];
        for (String quote : touching) {
            for (int at = text.indexOf(quote); at >= 0; at = text.indexOf(quote, at + 1)) {
                Arrays.fill(isTouched, at, at + quote.length(), true);
            }
        }
        int start = 0;
        for (String sentence : text.split("(?<=[.;:|]) ")) {
            boolean isHeading = sentence.endsWith(":") || sentence.equals(sentence.toUpperCase());
            boolean isHeld = isHeading;
            for (int at = start; at < start + sentence.length(); at++) {
                isHeld |= isTouched[at];
            }
            if (!isHeld) {
                fault("no test of \"" + sentence + "\"");
            }
            start += sentence.length() + 1;
        }
    }

    /** The first sentence of a promise may begin with Returns as well: the last one that does tells the answers. */
    private static List<String> clauses(List<String> lines) {
        List<String> all = new ArrayList<>();
        String answers = "";
        for (String line : lines) {
            if (line.matches("- .*: .*[0-9].*") || line.startsWith("Throws ")) {
                all.add(line.substring(line.indexOf(' ') + 1));
            }
            answers = line.startsWith("Returns ") ? line : answers;
        }
        if (!answers.isEmpty()) {
            all.addAll(Arrays.asList(answers.substring(0, answers.length() - 1).split("; ")));
        }
        return all;
    }

    void end() {
        needQuotes();
        needSentences();
        System.out.println("BoundaryTest: " + tests + " tests of " + promises.size() + " promises, " + asked
                + " answers, " + wrong + " not as due");
        if (wrong != 0) {
            System.exit(1);
        }
    }
}
