import java.nio.file.Files;
import java.nio.file.Path;
import java.util.regex.Matcher;
import java.util.regex.Pattern;

/** The calls that README.md shows answer what it tells behind them. */
public final class ReadmeTest {
    private static final Pattern CALL = Pattern.compile("drum\\.(\\w+)\\((.*)\\); +// (-?\\d+|\\w+Exception): .*");
    private static final Pattern TEXT = Pattern.compile("for \\(char c : \"(.*)\"\\.toCharArray\\(\\)\\) drum\\.append\\(c\\);");

    public static void main(String[] args) throws Exception {
        String[] parts = Files.readString(Path.of("README.md")).split("```");
        int examples = 0;
        for (int i = 1; i < parts.length; i += 2) {
            if (parts[i].startsWith("java\n")) {
                holds(parts[i].substring(5));
                examples++;
            }
        }
        Check.is("examples", 2, examples);
        Check.end("ReadmeTest");
    }

    private static void holds(String example) {
        Drum x = null;
        for (String line : example.split("\n")) {
            Matcher call = CALL.matcher(line);
            Matcher text = TEXT.matcher(line);
            if (line.equals("ProgramDrum drum = new ProgramDrum();")) {
                x = new Drum();
            } else if (x != null && call.matches()) {
                Check.is(line, call.group(3), answer(x, call.group(1), call.group(2)));
            } else if (x != null && text.matches()) {
                x.write(text.group(1));
            } else {
                Check.is("a line of README.md is read", "a call", line);
            }
        }
    }

    private static String answer(Drum x, String name, String arguments) {
        String[] words = arguments.isEmpty() ? new String[0] : arguments.replace("ProgramDrum.NONE", "-1").split(", ");
        long[] a = new long[words.length];
        for (int i = 0; i < words.length; i++) {
            a[i] = Long.parseLong(words[i].replaceAll("[_L]", ""));
        }
        return Check.answer(() -> x.call(name, a)).replace("throws ", "");
    }
}
