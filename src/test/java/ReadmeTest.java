import java.lang.reflect.Method;
import java.lang.reflect.Modifier;
import java.nio.file.Files;
import java.nio.file.Path;
import java.util.HashMap;
import java.util.List;
import java.util.Map;
import java.util.TreeSet;
import java.util.regex.MatchResult;
import java.util.regex.Matcher;
import java.util.regex.Pattern;

/** README.md: the answers of its examples, and what its tables say of methods, codes, settings, numbers, orders. */
public final class ReadmeTest {
    private static final Pattern EXAMPLE =
        Pattern.compile("(?:int (\\w+) = )?inn\\.(\\w+)\\(([^()]*)\\); *// ([^:]*)(?:: .*)?");
    private static final Pattern NAMED_ANSWER = Pattern.compile("([A-Z_]+) \\((-\\d+)\\)");
    private static final Pattern METHOD = Pattern.compile("\\| `(\\w+)\\(([^()]*)\\)` \\|.*\\|([^|]*)\\|");
    private static final Pattern CODE = Pattern.compile("\\| ([A-Z_]+) \\| (-\\d) \\|.*");
    private static final Pattern SETTING =
        Pattern.compile("\\| ([A-Z]+) \\| (\\d) \\| (\\d+) to (\\d+) \\| (\\d+) \\|.*");
    private static final Pattern NUMBER = Pattern.compile("\\| (\\d+) \\|([^|]*)\\|([^|]*)\\|([^|]*)\\|([^|]*)\\|");
    private static final Pattern ORDER = Pattern.compile("\\| `([a-z][A-Z0-9]+)` \\| `(\\w+)\\(([^()]*)\\)`.*");
    private static final String NEW_OBJECT = "InterruptInn inn = new InterruptInn();";

    private static final Map<String, Method> METHODS = new HashMap<>();
    private static final Map<String, Long> VARIABLES = new HashMap<>();
    private static InterruptInn inn;

    public static void main(String[] args) throws Exception {
        for (Method method : InterruptInn.class.getDeclaredMethods()) {
            if (Modifier.isPublic(method.getModifiers())) {
                METHODS.put(method.getName(), method);
            }
        }
        List<String> page = Files.readAllLines(Path.of(System.getProperty("readme.file", "README.md")));
        examples(page);
        methods(page);
        codes(page);
        settings(page);
        numbers(page);
        orders(page);
        Due.finish();
    }

    private static int call(InterruptInn x, String name, String arguments) throws Exception {
        String[] texts = arguments.isEmpty() ? new String[0] : arguments.split(", ");
        Method method = METHODS.get(name);
        Object[] values = new Object[texts.length];
        for (int i = 0; i < texts.length; i++) {
            values[i] = argument(method, i, valueOf(texts[i]));
        }
        return (int) method.invoke(x, values);
    }

    private static Object argument(Method method, int index, long value) {
        if (method.getParameterTypes()[index] == int.class) {
            return Math.toIntExact(value);
        }
        return value;
    }

    private static long valueOf(String text) throws Exception {
        if (text.startsWith("InterruptInn.")) {
            return InterruptInn.class.getField(text.substring(13)).getInt(null);
        }
        if (text.startsWith("'")) {
            return text.charAt(1);
        }
        if (VARIABLES.containsKey(text)) {
            return VARIABLES.get(text);
        }
        return Long.decode(text.replace("_", "").replaceFirst("L$", ""));
    }

    /** Each example begins with a new object; every other line of it is a call with its answer. */
    private static void examples(List<String> page) throws Exception {
        TreeSet<String> called = new TreeSet<>();
        boolean inExample = false;
        int blocks = 0;
        for (String line : page) {
            if (line.startsWith("```")) {
                inExample = line.equals("```java");
                blocks += inExample ? 1 : 0;
                inn = null;
                VARIABLES.clear();
            } else if (inExample && line.equals(NEW_OBJECT)) {
                inn = new InterruptInn();
            } else if (inExample) {
                called.add(example(line));
            }
        }
        Due.due("examples, with the first one", blocks, 7);
        Due.due("methods in examples", called, new TreeSet<>(METHODS.keySet()));
    }

    private static String example(String line) throws Exception {
        Matcher found = EXAMPLE.matcher(line);
        Due.due("readable: " + line, found.matches() && inn != null, true);
        int answer = call(inn, found.group(2), found.group(3));
        Due.due(line, answer, answerDue(found.group(4)));
        if (found.group(1) != null) {
            VARIABLES.put(found.group(1), (long) answer);
        }
        return found.group(2);
    }

    private static long answerDue(String text) throws Exception {
        Matcher named = NAMED_ANSWER.matcher(text);
        if (!named.matches()) {
            return Long.parseLong(text);
        }
        Due.due(text, valueOf("InterruptInn." + named.group(1)), Long.parseLong(named.group(2)));
        return Long.parseLong(named.group(2));
    }

    private static List<MatchResult> rows(List<String> page, Pattern row) {
        return page.stream().map(row::matcher).filter(Matcher::matches).map(Matcher::toMatchResult).toList();
    }

    /** Each method has one row, with all of its parameters and just the errors that it returns. */
    private static void methods(List<String> page) throws Exception {
        List<MatchResult> rows = rows(page, METHOD);
        for (MatchResult row : rows) {
            String name = row.group(1);
            int parameters = row.group(2).isEmpty() ? 0 : row.group(2).split(", ").length;
            Due.due("parameters of " + name, parameters, METHODS.get(name).getParameterCount());
            TreeSet<String> errors = new TreeSet<>(List.of(row.group(3).trim().split(", ")));
            Due.due("errors of " + name, errors.toString(), errorsOf(METHODS.get(name)).toString());
        }
        Due.due("rows of methods", rows.size(), METHODS.size());
    }

    private static TreeSet<String> errorsOf(Method method) throws Exception {
        String[] names = {"NO_SUCH", "BAD_VALUE", "BAD_TEXT", "TOO_MANY", "NOT_POSSIBLE"};
        int[] tried = {-1, 0, 1, 1000, '!'};
        TreeSet<String> errors = new TreeSet<>();
        int count = method.getParameterCount();
        for (int number = 0; number < Math.pow(tried.length, count); number++) {
            Object[] values = new Object[count];
            int rest = number;
            for (int i = 0; i < count; i++) {
                values[i] = argument(method, i, tried[rest % tried.length]);
                rest /= tried.length;
            }
            for (InterruptInn x : List.of(new InterruptInn(), Due.busy(), full())) {
                int answer = (int) method.invoke(x, values);
                if (answer < 0 && answer != Due.NONE) {
                    errors.add(names[-1 - answer]);
                }
            }
        }
        return errors;
    }

    /** Twelve lines, of which line 1 is a level line, six timers, and a full pad with a fault. */
    private static InterruptInn full() {
        InterruptInn x = new InterruptInn();
        for (int line = 0; line < 12; line++) {
            x.line(line, 1, 0, line == 1 ? 1 : 0);
        }
        for (int timer = 0; timer < 6; timer++) {
            x.timer(0, 9, 9);
        }
        Due.write(x, "!".repeat(80));
        return x;
    }

    private static void codes(List<String> page) throws Exception {
        List<MatchResult> rows = rows(page, CODE);
        for (MatchResult row : rows) {
            Due.due(row.group(), valueOf("InterruptInn." + row.group(1)), Long.parseLong(row.group(2)));
        }
        Due.due("rows of codes", rows.size(), 5);
    }

    private static void settings(List<String> page) throws Exception {
        List<MatchResult> rows = rows(page, SETTING);
        for (MatchResult row : rows) {
            int setting = Integer.parseInt(row.group(2));
            int least = Integer.parseInt(row.group(3));
            int most = Integer.parseInt(row.group(4));
            int first = Integer.parseInt(row.group(5));
            InterruptInn x = new InterruptInn();
            Due.due(row.group() + " its number", valueOf("InterruptInn." + row.group(1)), setting);
            Due.due(row.group() + " least", x.set(setting, least), first);
            Due.due(row.group() + " most", x.set(setting, most), least);
            Due.due(row.group() + " below", x.set(setting, least - 1), Due.BAD_VALUE);
            Due.due(row.group() + " above", x.set(setting, most + 1), Due.BAD_VALUE);
        }
        Due.due("rows of settings", rows.size(), 7);
    }

    /** A cell is empty if there is no such number; the settings' names stand where their numbers are. */
    private static void numbers(List<String> page) throws Exception {
        InterruptInn x = Due.busy();
        int what = 0;
        for (MatchResult row : rows(page, NUMBER)) {
            Due.due("what", Long.parseLong(row.group(1)), what);
            Due.due("ofLine " + what, row.group(2).isBlank(), x.ofLine(0, what) == Due.BAD_VALUE);
            Due.due("ofNest " + what, row.group(3).isBlank(), x.ofNest(0, what) == Due.BAD_VALUE);
            Due.due("ofTimer " + what, row.group(4).isBlank(), x.ofTimer(0, what) == Due.BAD_VALUE);
            Due.due("count " + what, row.group(5).isBlank(), x.count(what) == Due.BAD_VALUE);
            if (what >= 12) {
                Due.due("setting", valueOf("InterruptInn." + row.group(5).trim()), what - 12);
            }
            what++;
        }
        Due.due("no more numbers", x.count(what), Due.BAD_VALUE);
    }

    private static void orders(List<String> page) throws Exception {
        List<MatchResult> rows = rows(page, ORDER);
        for (MatchResult row : rows) {
            for (int level = 0; level <= 1; level++) {
                InterruptInn byText = heldUp(level);
                InterruptInn byCall = heldUp(level);
                int answer = call(byCall, row.group(2), row.group(3));
                Due.due(row.group() + " carried out", Due.carry(byText, row.group(1)), answer < 0 ? 0 : 1);
                Due.due(row.group(), Due.seen(byText), Due.seen(byCall));
            }
        }
        Due.due("rows of orders", rows.size(), 6);
    }

    private static InterruptInn heldUp(int level) {
        InterruptInn x = new InterruptInn();
        x.line(3, 4, 5, level);
        x.hold(0, 1, 1);
        x.hold(0, 2, 1);
        x.mask(0, level);
        return x;
    }
}
