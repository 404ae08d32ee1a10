import java.io.IOException;
import java.lang.reflect.InvocationTargetException;
import java.lang.reflect.Method;
import java.lang.reflect.Modifier;
import java.nio.file.Files;
import java.nio.file.Path;
import java.util.ArrayList;
import java.util.HashMap;
import java.util.List;
import java.util.Map;
import java.util.Set;
import java.util.TreeSet;
import java.util.regex.Matcher;
import java.util.regex.Pattern;

/**
 * Makes the calls that README.md shows and compares the answers that it tells behind them. The calls are read from
 * README.md itself, so that it can't come to tell something else than what is tested.
 */
public final class ReadmeTest {
    private static final Pattern NEW_DESK = Pattern.compile("PolicyDesk (\\w+) = new PolicyDesk\\((-?\\d+)\\);( +// .+)?");
    private static final Pattern TOLD = Pattern.compile("tell\\((\\w+), \"([^\"]*)\"\\); +// (.+)");
    private static final Pattern CALL = Pattern.compile("(\\w+)\\.(\\w+)\\(([^()]*)\\); +// (.+)");
    private static final Pattern QUOTED = Pattern.compile("true: \"([^\"]*)\"");

    private static final Map<String, PolicyDesk> desks = new HashMap<>();
    private static final Set<String> shown = new TreeSet<>();
    private static int told = 0;

    public static void main(String[] args) throws IOException {
        List<String> blocks = blocksOfJava(Files.readString(Path.of("README.md")));
        Bench.due("the blocks of Java in README.md", blocks.size(), 4);
        for (String block : blocks) {
            if (block.startsWith("static ")) {
                dueInThisFile(block);
            } else {
                block.lines().filter(line -> !line.isBlank()).forEach(ReadmeTest::follow);
            }
        }
        Bench.due("the methods that README.md shows", shown, methodsOfTheFace());
        Bench.due("statements told by tell", told > 0, true);
        Bench.due(".ci/run can be run", Files.isExecutable(Path.of(".ci/run")), true);
        Bench.finish();
    }

    private static List<String> blocksOfJava(String readme) {
        List<String> blocks = new ArrayList<>();
        Matcher matcher = Pattern.compile("(?s)\n```java\n(.*?)\n```\n").matcher(readme);
        while (matcher.find()) {
            blocks.add(matcher.group(1));
        }
        return blocks;
    }

    private static int tell(PolicyDesk desk, String statement) {
        for (int k = 0; k < statement.length(); k += 8) {
            long w = 0;
            for (int i = k; i < k + 8 && i < statement.length(); i++) {
                w = w << 8 | statement.charAt(i);
            }
            desk.write(w);
        }
        return desk.add();
    }

    /** The function that README.md shows must be the one that is called here. */
    private static void dueInThisFile(String block) throws IOException {
        String source = Files.readString(Path.of("src/test/java/ReadmeTest.java"));
        String indented = "    private " + block.replace("\n", "\n    ") + "\n\n";
        Bench.due("README.md's function stands in this file: " + block, source.contains(indented), true);
    }

    private static void follow(String line) {
        Matcher made = NEW_DESK.matcher(line);
        Matcher statement = TOLD.matcher(line);
        Matcher call = CALL.matcher(line);
        if (made.matches()) {
            desks.put(made.group(1), new PolicyDesk(Integer.parseInt(made.group(2))));
        } else if (statement.matches()) {
            told++;
            PolicyDesk desk = desks.get(statement.group(1));
            dueAsTold(line, shownOf(Bench.outcome(() -> tell(desk, statement.group(2)))), statement.group(3));
        } else if (call.matches()) {
            shown.add(call.group(2));
            dueAsTold(line, outcomeOf(desks.get(call.group(1)), call.group(2), call.group(3)), call.group(4));
            dueQuoted(line, call.group(3), call.group(4));
        } else {
            Bench.due("README.md's line '" + line + "' is a call with its answer", false, true);
        }
    }

    /** Behind an answer there may be a colon and a remark. */
    private static void dueAsTold(String line, String got, String comment) {
        Bench.due("README.md's line '" + line + "'", got, comment.split(":", 2)[0]);
    }

    /** If the remark on a write is a quoted text, that must be what is written. */
    private static void dueQuoted(String line, String argument, String comment) {
        Matcher quoted = QUOTED.matcher(comment);
        if (quoted.matches()) {
            StringBuilder text = new StringBuilder();
            long w = longOf(argument);
            for (int shift = 56; shift >= 0; shift -= 8) {
                if ((w >>> shift & 255) != 0) {
                    text.append((char) (w >>> shift & 255));
                }
            }
            Bench.due("the text of README.md's line '" + line + "'", text, quoted.group(1));
        }
    }

    private static String outcomeOf(PolicyDesk desk, String name, String arguments) {
        for (Method method : PolicyDesk.class.getMethods()) {
            if (method.getDeclaringClass() == PolicyDesk.class && method.getName().equals(name)) {
                return outcomeOf(desk, method, arguments.isEmpty() ? new String[0] : arguments.split(", "));
            }
        }
        return "no such method";
    }

    private static String outcomeOf(PolicyDesk desk, Method method, String[] arguments) {
        Class<?>[] types = method.getParameterTypes();
        if (types.length != arguments.length) {
            return "not so many arguments";
        }
        Object[] values = new Object[types.length];
        for (int k = 0; k < values.length; k++) {
            values[k] = types[k] == long.class ? (Object) longOf(arguments[k]) : (Object) Integer.valueOf(arguments[k]);
        }
        try {
            return String.valueOf(method.invoke(desk, values));
        } catch (InvocationTargetException thrown) {
            return "throws " + thrown.getCause().getClass().getSimpleName();
        } catch (IllegalAccessException closed) {
            return "no method of the face";
        }
    }

    private static String shownOf(String outcome) {
        return outcome.endsWith("Exception") ? "throws " + outcome : outcome;
    }

    /** A long as README.md writes it: sixteen digits, each two of them a byte. */
    private static long longOf(String written) {
        Bench.due(written + " is written in sixteen digits", written.matches("0x[0-9a-f]{16}L"), true);
        return Long.parseUnsignedLong(written.substring(2, 18), 16);
    }

    private static Set<String> methodsOfTheFace() {
        Set<String> names = new TreeSet<>();
        for (Method method : PolicyDesk.class.getDeclaredMethods()) {
            if (Modifier.isPublic(method.getModifiers())) {
                names.add(method.getName());
            }
        }
        return names;
    }
}
