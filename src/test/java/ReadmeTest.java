import java.lang.reflect.InvocationTargetException;
import java.lang.reflect.Method;
import java.lang.reflect.Modifier;
import java.nio.charset.StandardCharsets;
import java.nio.file.Files;
import java.nio.file.Path;
import java.util.ArrayList;
import java.util.List;
import java.util.Map;
import java.util.Random;
import java.util.Set;
import java.util.TreeMap;
import java.util.TreeSet;
import java.util.regex.Matcher;
import java.util.regex.Pattern;
import java.util.stream.Collectors;
import java.util.stream.Stream;

/** README.md tells what holds: its examples answer as they say, its tables name what there is. */
public final class ReadmeTest {
    private static final Map<String, Method> CALLS = new TreeMap<>();
    private static final Map<String, Long> CONSTANTS = Map.of("NONE", (long) JustFivePounds.NONE, "BAD", (long) JustFivePounds.BAD,
            "STATE", (long) JustFivePounds.STATE, "FULL", (long) JustFivePounds.FULL, "NO", JustFivePounds.NO);
    /** What numbers one might give: within, at the edges, beside them and far outside. */
    private static final int[] NUMBERS = {Integer.MIN_VALUE, -1, 0, 1, 2, 3, 4, 5, 6, 7, 10, 20, 40, 41, 47, 60, 99, 100, 500, 501,
        999, 5000, 5001, 99999, 100000, Integer.MAX_VALUE};
    private static final int ROOMS = 4, TURNS = 6000;

    private static void due(String what, boolean holds) {
        Due.due(what, holds ? 1 : 0, 1);
    }

    private static long answer(JustFivePounds x, String name, Object... numbers) {
        Method call = CALLS.get(name);
        if (call == null || call.getParameterCount() != numbers.length) throw new IllegalStateException("no call: " + name);
        try {
            return ((Number) call.invoke(x, numbers)).longValue();
        } catch (IllegalAccessException | InvocationTargetException e) {
            throw new IllegalStateException(name, e);
        }
    }

    // ---- the examples

    private static Object number(String text) {
        return text.startsWith("'") ? (int) text.charAt(1) : Integer.parseInt(text);
    }

    private static long dueNumber(String text) {
        return CONSTANTS.containsKey(text) ? CONSTANTS.get(text) : Long.parseLong(text);
    }

    /** Makes the calls of a block; the names of the calls, and what was due, come behind the others'. */
    private static void block(String block, Set<String> called, Set<String> told) {
        JustFivePounds x = null;
        Pattern example = Pattern.compile("x\\.(\\w+)\\((.*)\\); +// +(\\S+).*");
        for (String line : block.strip().split("\n")) {
            if (line.equals("JustFivePounds x = new JustFivePounds();")) {
                x = new JustFivePounds();
                continue;
            }
            Matcher m = example.matcher(line);
            boolean reads = m.matches();
            due("an example can be read: " + line, reads && x != null);
            if (!reads || x == null) continue;
            Object[] numbers = m.group(2).isEmpty() ? new Object[0]
                    : Stream.of(m.group(2).split(", ")).map(ReadmeTest::number).toArray();
            Due.due(line, answer(x, m.group(1), numbers), dueNumber(m.group(3)));
            called.add(m.group(1));
            told.add(m.group(3));
        }
    }

    private static void examples(String page) {
        Set<String> called = new TreeSet<>();
        Matcher m = Pattern.compile("(?s)```java\n(.*?)```").matcher(page);
        while (m.find()) block(m.group(1), called, new TreeSet<>());
        due("each call has an example, but " + without(CALLS.keySet(), called), called.equals(CALLS.keySet()));
    }

    private static Set<String> without(Set<String> all, Set<String> some) {
        Set<String> rest = new TreeSet<>(all);
        rest.removeAll(some);
        return rest;
    }

    // ---- the table of calls

    private static Set<String> marked(String text) {
        Set<String> marked = new TreeSet<>();
        Matcher m = Pattern.compile("`([^`]+)`").matcher(text);
        while (m.find()) marked.add(m.group(1));
        return marked;
    }

    private static void table(String page, String document) {
        Set<String> face = new TreeSet<>();
        Matcher asked = Pattern.compile("(?m)^    public (?:int|long) (\\w+\\([^)]*\\));$").matcher(document);
        while (asked.find()) face.add(asked.group(1).replace("int ", ""));
        Set<String> named = new TreeSet<>();
        Matcher row = Pattern.compile("(?m)^\\| `((\\w+)\\([^)]*\\))` \\|.*\\|([^|]*)\\|$").matcher(page);
        while (row.find()) {
            named.add(row.group(1));
            Set<String> below = belowNone(row.group(2)), says = marked(row.group(3));
            due(row.group(1) + " answers " + below + ", the table says " + says, below.equals(says));
        }
        due("the table names the face, but " + without(face, named) + without(named, face), named.equals(face));
    }

    /** One of some objects that differ in what there is, what is full and what is missing. */
    private static JustFivePounds room(int which, boolean bookFull) {
        JustFivePounds x = new JustFivePounds();
        if (which == 0) {
            x.sheet(3, 0, 1);
        } else if (which == 1) {
            x.hand(47, 9, 50);
            x.hand(14, 9, 0);
            Due.row(x, 0, 0, 20, 9, 50, 60, 1, 1, 14);
            Due.row(x, 1, 2, 500, 505);
            Due.row(x, 3, 1, 500, 500);
            x.image();
            Due.feed(x, "runs 1;late 1;costs 1;");
        } else if (which == 2) {
            for (int h = 0; h < 5; h++) x.hand(10 * h, 9, 50);
            for (int t = 1; t < 6; t++) Due.by(x, "runs " + t + ";late 1;costs off;");
            Due.row(x, 0, 2, 1, 2);
            x.feed(5, 'r', 'u', 'n', 's', ' ');
            while (x.count(7) < 160) x.feed(1, ' ', 0, 0, 0, 0);
            x.set(2, 99);
            for (int i = 0; i < 999 && bookFull; i++) x.serve(i, 0);
        } else {
            Due.by(x, "runs 10 - (notch=3)*3; late after=1; costs off;");
            // just at MARK by CHANGES 55, and by none of 0, 10, .. 500
            x.set(1, 2);
            x.hand(20, 12, 55);
            x.sheet(0, 2, 0);
            Due.feed(x, "runs 1;late 1;costs");
        }
        return x;
    }

    /** What a call answers below 0, to all sorts of numbers, in the words of the table. */
    private static Set<String> belowNone(String name) {
        Set<String> below = new TreeSet<>();
        int count = CALLS.get(name).getParameterCount();
        int all = (int) Math.pow(NUMBERS.length, count);
        for (int which = 0; which < ROOMS; which++) {
            Random lot = new Random(which);
            JustFivePounds x = null;
            for (int turn = 0; turn < Math.min(all, TURNS); turn++) {
                // few calls to an object: what they change may hide what another would have found
                if (turn % 100 == 0) x = room(which, name.equals("serve"));
                Object[] numbers = new Object[count];
                for (int i = 0, left = turn; i < count; i++, left /= NUMBERS.length) {
                    int at = all <= TURNS ? left % NUMBERS.length : lot.nextInt(lot.nextBoolean() ? NUMBERS.length : 9);
                    numbers[i] = NUMBERS[at];
                }
                long answer = answer(x, name, numbers);
                // going on may cost less than staying
                if (answer < 0 && !(name.equals("on") && answer != JustFivePounds.NO)) below.add(word(answer));
            }
        }
        return below;
    }

    private static String word(long answer) {
        if (answer == JustFivePounds.NO) return "NO";
        if (answer <= -100) return "FAULT";
        if (answer == JustFivePounds.BAD) return "BAD";
        if (answer == JustFivePounds.STATE) return "STATE";
        return answer == JustFivePounds.FULL ? "FULL" : "" + answer;
    }

    // ---- refusals, the tests

    private static void refusals(String page) {
        String part = page.substring(page.indexOf("### What refusals look like"), page.indexOf("## How to run its tests"));
        Matcher constant = Pattern.compile("`(\\w+)` \\((-\\d+)\\)").matcher(part);
        Set<String> constants = new TreeSet<>();
        while (constant.find()) {
            constants.add(constant.group(1));
            Due.due(constant.group(1), dueNumber(constant.group(1)), Long.parseLong(constant.group(2)));
        }
        due("all constants: " + constants, constants.equals(CONSTANTS.keySet()));
        Set<String> told = new TreeSet<>(), shown = new TreeSet<>();
        Matcher row = Pattern.compile("(?m)^\\| `([^`]+)`").matcher(part);
        while (row.find()) told.add(row.group(1));
        block(part.substring(part.indexOf("```java\n") + 8, part.lastIndexOf("```")), new TreeSet<>(), shown);
        due("there are refusals", told.size() > 9);
        due("each refusal is shown, but " + without(told, shown), shown.containsAll(told));
        Set<String> columns = new TreeSet<>();
        row = Pattern.compile("(?m)^\\| `\\w+\\([^)]*\\)` \\|.*\\|([^|]*)\\|$").matcher(page);
        while (row.find()) columns.addAll(marked(row.group(1)));
        due("each refusal of the table is told, but " + without(columns, told), without(columns, told).equals(Set.of("-1", "FAULT")));
    }

    private static void tests(String page) throws Exception {
        Set<String> are = new TreeSet<>();
        try (Stream<Path> files = Files.list(Path.of("src/test/java"))) {
            are.addAll(files.map(file -> file.getFileName().toString()).filter(file -> file.endsWith(".java"))
                    .map(file -> file.substring(0, file.length() - 5)).collect(Collectors.toSet()));
        }
        Set<String> named = new TreeSet<>();
        Matcher row = Pattern.compile("(?m)^\\| `(\\w+Test)` \\|").matcher(page);
        while (row.find()) named.add(row.group(1));
        due("the tests are " + are + ", told are " + named, are.equals(named));
        List<String> paths = new ArrayList<>(List.of(".ci/run", "src/main/java/JustFivePounds.java", "../shared/DOC.md",
                "../shared/LANGUAGE.md", "../shared/tests"));
        for (String path : paths) due(path + " is told and is there", page.contains(path) && Files.exists(Path.of(path)));
        due(".ci/run can be run", Files.isExecutable(Path.of(".ci/run")));
    }

    public static void main(String[] args) throws Exception {
        for (Method call : JustFivePounds.class.getDeclaredMethods()) {
            if (Modifier.isPublic(call.getModifiers())) CALLS.put(call.getName(), call);
        }
        String page = Files.readString(Path.of("README.md"), StandardCharsets.UTF_8);
        String document = Files.readString(Path.of("../shared/DOC.md"), StandardCharsets.UTF_8);
        examples(page);
        table(page, document);
        refusals(page);
        tests(page);
        Due.end("ReadmeTest");
    }
}
