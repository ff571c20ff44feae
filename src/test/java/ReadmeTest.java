import java.nio.file.Files;
import java.nio.file.Path;
import java.util.Arrays;
import java.util.List;
import java.util.regex.Matcher;
import java.util.regex.Pattern;

/** What README.md tells of how the class is used holds: the run of calls that it shows answers so. */
final class ReadmeTest {
    private static final Pattern TAPE = Pattern.compile("tape\\(x, \"(.*)\"\\);");
    private static final Pattern CALL = Pattern.compile("x\\.(\\w+)\\((.*)\\); +// ([^:]+): .*");

    public static void main(String[] args) throws Exception {
        String[] parts = Files.readString(Path.of("README.md")).split("```");
        Check.eq("two blocks of code", parts.length, 5);
        isShared(parts[1].strip().lines().skip(1).toList());
        List<String> run = parts[3].strip().lines().skip(1).toList();
        Check.eq("a new object", run.indexOf("SundialTreaty x = new SundialTreaty();"), 0);
        SundialTreaty x = new SundialTreaty();
        for (String line : run.subList(1, run.size())) {
            go(x, line);
        }
        Check.finish("ReadmeTest");
    }

    /** The tests put their texts on a tape by the very lines that are shown. */
    private static void isShared(List<String> shown) throws Exception {
        List<String> shared = Files.readString(Path.of("src/test/java/Check.java")).lines().map(String::strip).toList();
        for (String line : shown) {
            Check.yes("Check has the line: " + line, shared.contains(line.strip()));
        }
    }

    private static void go(SundialTreaty x, String line) throws Exception {
        Matcher tape = TAPE.matcher(line);
        Matcher call = CALL.matcher(line);
        if (tape.matches()) {
            Check.tape(x, tape.group(1));
        } else if (call.matches()) {
            Object[] numbers = Arrays.stream(call.group(2).split(", ")).filter(n -> !n.isEmpty()).map(Integer::valueOf).toArray();
            String got = Check.answer(x, call.group(1), numbers).toString();
            Check.yes("README.md: " + line + " (answered " + got + ")", got.equals(call.group(3)));
        } else {
            Check.no("README.md has a line that is no call: " + line, true);
        }
    }
}
