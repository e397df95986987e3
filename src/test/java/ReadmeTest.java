import java.io.IOException;
import java.nio.file.Files;
import java.nio.file.Path;
import java.util.HashMap;
import java.util.Map;
import java.util.regex.Matcher;
import java.util.regex.Pattern;

/** The example of README.md, row by row: each call answers what stands behind it. */
public final class ReadmeTest {
    private static final Pattern CALL =
        Pattern.compile("(?:int (\\w+) = )?butler\\.(\\w+)\\(([^)]*)\\); +// (-?\\d+): .*");
    private static final Pattern TEXT = Pattern.compile("for \\(char sign : \"([^\"]*)\"\\.toCharArray\\(\\)\\) \\{");
    private static final Pattern OTHER = Pattern.compile("|ButlerRemembers butler = .*| +butler\\.feed\\(sign\\);|}");

    public static void main(String[] args) throws IOException {
        Run.says("README.md");
        String readme = Files.readString(Path.of("README.md"));
        int from = readme.indexOf("```java\n") + "```java\n".length();
        String example = readme.substring(from, readme.indexOf("```", from));
        Run x = new Run();
        Map<String, Integer> names = new HashMap<>();
        for (String row : example.split("\n")) {
            Matcher call = CALL.matcher(row);
            Matcher text = TEXT.matcher(row);
            if (call.matches()) {
                int want = Integer.parseInt(call.group(4));
                x.due(want, call.group(2), with(call.group(3), names));
                names.put(String.valueOf(call.group(1)), want);
            } else if (text.matches()) {
                x.text(text.group(1));
            } else {
                Run.note("this row is not understood: " + row, OTHER.matcher(row).matches());
            }
        }
        Run.end();
    }

    private static Object[] with(String list, Map<String, Integer> names) {
        String[] parts = list.isEmpty() ? new String[0] : list.split(", ");
        Object[] with = new Object[parts.length];
        for (int i = 0; i < parts.length; i++) {
            boolean truth = parts[i].equals("true") || parts[i].equals("false");
            with[i] = truth ? (Object) Boolean.valueOf(parts[i])
                : (Object) (names.containsKey(parts[i]) ? names.get(parts[i]) : Integer.valueOf(parts[i]));
        }
        return with;
    }
}
