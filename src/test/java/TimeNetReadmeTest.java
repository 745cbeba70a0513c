import java.io.IOException;
import java.nio.file.Files;
import java.nio.file.Path;
import java.util.Map;
import java.util.NoSuchElementException;
import java.util.Set;
import java.util.regex.Matcher;
import java.util.regex.Pattern;

/** Makes the calls of README.md's example, in their order, and looks at the answers beside them. */
public final class TimeNetReadmeTest {
    private static final Pattern CALL =
            Pattern.compile("net\\.(\\w+)\\(([^)]*)\\);\\s*// (throws \\w+|[-\\w]+): .*");
    private static final Map<String, String> NAMED = Map.of("-1", "NONE", "-2", "REFUSED");
    // Where -1 and -2 are answers as any other.
    private static final Set<String> LENGTHS = Set.of("bound", "length", "earliest");

    public static void main(String[] args) throws IOException {
        TimeNet net = new TimeNet();
        int calls = 0;
        int wrong = 0;
        for (String line : Files.readAllLines(Path.of("README.md"))) {
            if (!line.startsWith("net.")) continue;
            Matcher parts = CALL.matcher(line);
            if (!parts.matches()) throw new IllegalStateException("not a call with its answer: " + line);
            calls++;
            String got = answer(net, parts.group(1), parts.group(2));
            if (!got.equals(parts.group(3))) {
                wrong++;
                System.out.println(line + "   but the answer is " + got);
            }
        }
        if (calls == 0) throw new IllegalStateException("README.md has no example");
        System.out.println(calls + " calls, "
                + (wrong == 0 ? "all answers are as due" : wrong + " answers are not as due"));
        if (wrong != 0) System.exit(1);
    }

    private static String answer(TimeNet net, String name, String arguments) {
        String[] texts = arguments.isEmpty() ? new String[0] : arguments.split(", ");
        int[] a = new int[3];
        for (int k = 0; k < texts.length; k++) a[k] = Integer.parseInt(texts[k]);
        try {
            String plain = call(net, name, a);
            return LENGTHS.contains(name) ? plain : NAMED.getOrDefault(plain, plain);
        } catch (NoSuchElementException e) {
            return "throws NoSuchElementException";
        }
    }

    private static String call(TimeNet net, String name, int[] a) {
        return switch (name) {
            case "add" -> "" + net.add(a[0], a[1], a[2]);
            case "off" -> "" + net.off(a[0]);
            case "on" -> "" + net.on(a[0]);
            case "bound" -> "" + net.bound(a[0], a[1]);
            case "steps" -> "" + net.steps(a[0], a[1]);
            case "path" -> "" + net.path(a[0], a[1]);
            case "row" -> "" + net.row();
            case "rowAt" -> "" + net.rowAt(a[0]);
            case "length" -> "" + net.length();
            case "earliest" -> "" + net.earliest(a[0]);
            case "slack" -> "" + net.slack(a[0]);
            case "alive" -> "" + net.alive();
            default -> throw new IllegalStateException("no such call: " + name);
        };
    }
}
