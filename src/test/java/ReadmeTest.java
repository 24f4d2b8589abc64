import java.io.IOException;
import java.lang.reflect.Method;
import java.lang.reflect.Modifier;
import java.nio.file.Files;
import java.nio.file.Path;
import java.util.Set;
import java.util.TreeSet;
import java.util.regex.Matcher;
import java.util.regex.Pattern;

/** The example in README.md is made call by call, so that it cannot say what the class does not answer. */
public final class ReadmeTest {
    private static final Pattern ASKED = Pattern.compile("(?:plans\\.)?(\\w+)\\((.*)\\); +// (-?\\d+|'.'|[A-Z]+)[ ,:].*");
    private static final Pattern CALL = Pattern.compile("(read\\(plans, |plans\\.).*\\);.*");

    public static void main(String[] args) throws IOException {
        Checks c = new Checks();
        Set<String> called = new TreeSet<>(Set.of("sign"));
        SortPlans x = new SortPlans();
        for (String line : Files.readAllLines(Path.of("README.md"))) {
            Matcher m = ASKED.matcher(line);
            if (m.matches()) {
                called.add(m.group(1));
                c.due("README.md: " + line, answer(x, m.group(1), m.group(2)), written(m.group(3)));
            } else {
                c.due("README.md: calls without an answer in " + line, CALL.matcher(line).matches() ? 1 : 0, 0);
            }
        }
        everyCallIsShown(c, called);
        c.end();
    }

    private static void everyCallIsShown(Checks c, Set<String> called) {
        Set<String> face = new TreeSet<>();
        for (Method method : SortPlans.class.getDeclaredMethods()) {
            if (Modifier.isPublic(method.getModifiers())) {
                face.add(method.getName());
            }
        }
        c.dueText("README.md: the calls that it shows", called.toString(), face.toString());
    }

    private static int written(String answer) {
        return switch (answer) {
            case "UNKNOWN" -> SortPlans.UNKNOWN;
            case "OUTSIDE" -> SortPlans.OUTSIDE;
            case "STATE" -> SortPlans.STATE;
            default -> answer.charAt(0) == '\'' ? answer.charAt(1) : Integer.parseInt(answer);
        };
    }

    private static int answer(SortPlans x, String call, String arguments) {
        if (call.equals("read")) {
            return Checks.readOf(x, arguments.substring(arguments.indexOf('"') + 1, arguments.lastIndexOf('"')));
        }
        String[] a = arguments.split(", ");
        return switch (call) {
            case "target" -> x.target(number(a, 0), number(a, 1));
            case "bin" -> x.bin(number(a, 0), number(a, 1), number(a, 2));
            case "check" -> x.check();
            case "fault" -> x.fault(number(a, 0), number(a, 1));
            case "hold" -> x.hold(number(a, 0), a[1].equals("true"));
            case "compare" -> x.compare(number(a, 0));
            case "swap" -> x.swap(number(a, 0), number(a, 1));
            case "overflow" -> x.overflow(number(a, 0));
            case "print" -> x.print(number(a, 0));
            default -> throw new IllegalArgumentException("README.md calls " + call);
        };
    }

    private static int number(String[] arguments, int i) {
        return Integer.parseInt(arguments[i]);
    }
}
