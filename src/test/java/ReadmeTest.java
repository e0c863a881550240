import java.nio.file.Files;
import java.nio.file.Path;
import java.util.ArrayList;
import java.util.List;
import java.util.regex.Matcher;
import java.util.regex.Pattern;

/** README.md shows calls with their answers: each of its pieces of code is made, on an object of its own. */
public final class ReadmeTest {
    private static final Pattern CALL = Pattern.compile("street\\.(\\w+\\(.*\\)); *// (-?\\w+).*");
    private static final Pattern HEX = Pattern.compile("0x[0-9a-f]+");
    private static final Due due = new Due();

    public static void main(String[] args) throws Exception {
        List<String> calls = new ArrayList<>();
        int pieces = 0;
        boolean inside = false;
        for (String line : Files.readAllLines(Path.of("README.md"))) {
            if (line.startsWith("```")) {
                inside = line.equals("```java");
                if (!inside) {
                    pieces++;
                    Script.run(due, "README, piece " + pieces, calls.toArray(new String[0]));
                    calls.clear();
                }
            } else if (inside && !line.equals("LampOrder street = new LampOrder();")) {
                calls.add(callOf(line));
            }
        }
        due.is("pieces of code in README", pieces, 5);
        due.end();
    }

    private static String callOf(String line) {
        Matcher m = CALL.matcher(line);
        if (!m.matches()) {
            throw new IllegalArgumentException("no call with its answer: " + line);
        }
        String call = HEX.matcher(m.group(1).replace("LampOrder.", "")).replaceAll(hex -> Integer.decode(hex.group()).toString());
        return call + " = " + m.group(2);
    }
}
