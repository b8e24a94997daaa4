import java.io.IOException;
import java.nio.file.Files;
import java.nio.file.Path;
import java.util.ArrayList;
import java.util.List;
import java.util.regex.Matcher;
import java.util.regex.Pattern;

/**
 * Runs of calls on a new drum, each for a sentence that it quotes from the document. A line of a run is one of
 * <pre>
 * turn 11 = 11                            the call answers this
 * turn 100 ! IllegalArgumentException     the call throws this
 * turn 11                                 the call throws nothing
 * 14 times turn 11 = 10                   that often; the answer is that of the last call
 * text D12 2*o01----00                    each character is appended
 * program D12 2*o01----00                 and the text is loaded
 * </pre>
 * and may end with a # and the reason. Behind each call that is refused or only looks, all of the drum must be as
 * it was before: what it tells, its text, its remembered states and its save slots.
 */
final class Sentences {
    /** The number for what stands ahead of the promises. */
    static final int TERMS = 0;

    private static final int PROMISES = 29;

    private static final Pattern LINE = Pattern.compile("(?:(\\d+) times )?(\\w+)((?: -?[\\d_]+)*)(?: ([=!]) (\\S+))?");
    private static final String[] SECTIONS = sections();

    private record Quote(int promise, String sentence, String run) {
    }

    private static final List<Quote> QUOTES = new ArrayList<>();

    private Sentences() {
    }

    static void holds(int promise, String sentence, String run) {
        QUOTES.add(new Quote(promise, sentence, run));
        String where = "promise " + promise + ", \"" + sentence + "\"";
        Check.is(where + " stands in the document", true, onOneLine(SECTIONS[promise]).contains(sentence));
        Drum x = new Drum();
        for (String line : run.split("\n")) {
            String call = line.replaceAll("#.*", "").trim();
            if (call.startsWith("program ") || call.startsWith("text ")) {
                write(x, call);
            } else if (!call.isEmpty()) {
                answers(where + ": " + call, x, call);
            }
        }
    }

    private static void write(Drum x, String call) {
        String[] parts = call.split(" +");
        for (int i = 1; i < parts.length; i++) {
            int star = parts[i].indexOf('*');
            String part = parts[i].substring(star + 1);
            x.write(star < 0 ? part : part.repeat(Integer.parseInt(parts[i].substring(0, star))));
        }
        if (parts[0].equals("program")) {
            x.load();
        }
    }

    private static void answers(String where, Drum x, String call) {
        Matcher m = LINE.matcher(call);
        if (!m.matches()) {
            throw new AssertionError("no call: " + call);
        }
        int times = m.group(1) == null ? 1 : Integer.parseInt(m.group(1));
        String name = m.group(2);
        long[] a = numbers(m.group(3).trim());
        boolean refused = "!".equals(m.group(4));
        boolean changesNothing = refused || times == 1 && Calls.onlyLooks(name);
        String before = changesNothing ? x.whole() : "";
        String answer = "";
        for (int i = 0; i < times; i++) {
            answer = Check.answer(() -> x.call(name, a));
        }
        String due = refused ? "throws " + m.group(5) : m.group(5);
        if (due != null) {
            Check.is(where, due, answer);
        } else {
            Check.is(where + " throws", false, answer.startsWith("throws"));
        }
        if (changesNothing) {
            Check.is(where + " changes nothing", before, x.whole());
        }
    }

    private static long[] numbers(String words) {
        String[] word = words.isEmpty() ? new String[0] : words.split(" ");
        long[] numbers = new long[word.length];
        for (int i = 0; i < word.length; i++) {
            numbers[i] = Long.parseLong(word[i].replace("_", ""));
        }
        return numbers;
    }

    /** Each parameter, each result and each exception of a promise is quoted, an exception whole and with a refused call. */
    static void quoteAllPromises() {
        Pattern form = Pattern.compile("- `\\w+`: .*|Returns .*|Throws `(\\w+)` if .*");
        int units = 0;
        for (int promise = 1; promise <= PROMISES; promise++) {
            for (String line : units(promise)) {
                Matcher m = form.matcher(line);
                if (m.matches()) {
                    units++;
                    Check.is("promise " + promise + ": \"" + line + "\" is quoted", true, isQuoted(promise, line, m.group(1)));
                }
            }
            int number = promise;
            Check.is("promise " + promise + " is quoted", true, QUOTES.stream().anyMatch(q -> q.promise == number));
        }
        Check.is("parameters, results and exceptions are found", true, units > 90);
    }

    private static boolean isQuoted(int promise, String line, String exception) {
        for (Quote q : QUOTES) {
            boolean isIt = exception == null ? line.contains(q.sentence)
                    : line.equals(q.sentence) && q.run.contains("! " + exception);
            if (q.promise == promise && isIt) {
                return true;
            }
        }
        return false;
    }

    /** The paragraphs and list items of a promise, each on one line. */
    private static List<String> units(int promise) {
        List<String> units = new ArrayList<>();
        for (String unit : SECTIONS[promise].split("\n\\s*\n|\n(?=- `)")) {
            units.add(onOneLine(unit));
        }
        return units;
    }

    private static String onOneLine(String text) {
        return text.replaceAll("\\s+", " ").trim();
    }

    /** The document, cut at its promises. */
    private static String[] sections() {
        try {
            return Files.readString(Path.of("../shared/DOC.md")).replace("```text", "").split("## (Promise \\d+:|Not promised)");
        } catch (IOException e) {
            throw new AssertionError(e);
        }
    }
}
