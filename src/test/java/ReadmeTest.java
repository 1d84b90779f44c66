import java.io.IOException;
import java.lang.reflect.Method;
import java.lang.reflect.Modifier;
import java.nio.file.Files;
import java.nio.file.Path;
import java.util.regex.Matcher;
import java.util.regex.Pattern;

/** The examples of README.md answer what stands behind them, and every call of the face stands in it. */
public final class ReadmeTest {
    private static final Pattern CALL = Pattern.compile("ring\\.(\\w+\\([^()]*\\));");
    private static final Pattern ANSWER = Pattern.compile("// (-?\\d+)\\b");
    private static final Due due = new Due();

    public static void main(String[] args) throws IOException {
        String text = Files.readString(Path.of(args.length > 1 ? args[1] : "README.md"));
        due.holds("README.md tells how tests are run", text.contains("bash .ci/run"));
        int answers = 0;
        RingShadow ring = new RingShadow();
        for (String line : text.split("\n")) {
            if (line.contains("= new RingShadow()")) {
                ring = new RingShadow();
            }
            answers += row(ring, line);
        }
        due.holds("README.md has examples", answers > 20);
        for (Method method : RingShadow.class.getDeclaredMethods()) {
            if (Modifier.isPublic(method.getModifiers())) {
                due.holds("README.md names " + method.getName(), text.contains("ring." + method.getName() + "("));
            }
        }
        due.end("ReadmeTest");
    }

    /** Makes all calls of a line: the number behind them is what the last one answers. */
    private static int row(RingShadow ring, String line) {
        Matcher call = CALL.matcher(line);
        String last = null;
        long got = 0;
        while (call.find()) {
            last = call.group(1);
            got = Calls.ask(ring, last);
        }
        Matcher answer = ANSWER.matcher(line);
        if (last == null || !answer.find()) {
            return 0;
        }
        due.is(last, got, Long.parseLong(answer.group(1)));
        return 1;
    }
}
