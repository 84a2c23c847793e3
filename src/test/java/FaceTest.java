import java.lang.reflect.Constructor;
import java.lang.reflect.Field;
import java.lang.reflect.Method;
import java.lang.reflect.Modifier;
import java.nio.charset.StandardCharsets;
import java.nio.file.Files;
import java.nio.file.Path;
import java.util.ArrayList;
import java.util.Arrays;
import java.util.List;
import java.util.Set;
import java.util.TreeSet;
import java.util.regex.Matcher;
import java.util.regex.Pattern;

/** The public face of the document, and what of LANGUAGE.md can be seen by looking. */
public final class FaceTest {
    private static final Path SOURCE = Path.of("src/main/java/JustFivePounds.java");
    private static final Path DOCUMENT = Path.of("../shared/DOC.md");

    private static void due(String what, boolean holds) {
        Due.due(what, holds ? 1 : 0, 1);
    }

    private static String signature(Method m) {
        List<String> types = new ArrayList<>();
        for (Class<?> type : m.getParameterTypes()) types.add(type.getSimpleName());
        return m.getReturnType().getSimpleName() + " " + m.getName() + "(" + String.join(", ", types) + ")";
    }

    /** The document's own list of methods, without the names of what they take. */
    private static Set<String> asked(String document) {
        Set<String> asked = new TreeSet<>();
        Matcher m = Pattern.compile("^    public (int|long) (\\w+)\\(([^)]*)\\);$", Pattern.MULTILINE).matcher(document);
        while (m.find()) asked.add(m.group(1) + " " + m.group(2) + "(" + m.group(3).replaceAll("(int|long) \\w+", "$1") + ")");
        return asked;
    }

    private static void face(String document) {
        Class<?> c = JustFivePounds.class;
        due("the class is public and final", Modifier.isPublic(c.getModifiers()) && Modifier.isFinal(c.getModifiers()));
        Set<String> are = new TreeSet<>(), names = new TreeSet<>();
        for (Method m : c.getDeclaredMethods()) {
            if (Modifier.isPrivate(m.getModifiers())) continue;
            are.add(signature(m));
            names.add(m.getName());
            due(signature(m) + " is public", Modifier.isPublic(m.getModifiers()) && !Modifier.isStatic(m.getModifiers()));
        }
        due("42 promises are of a constructor and 41 methods", asked(document).size() == 41);
        due("the methods are " + are, are.equals(asked(document)));
        for (Method m : c.getDeclaredMethods()) {
            due(m.getName() + " bears no public name", !Modifier.isPrivate(m.getModifiers()) || !names.contains(m.getName()));
        }
        Constructor<?>[] constructors = c.getDeclaredConstructors();
        due("one constructor", constructors.length == 1 && constructors[0].getParameterCount() == 0
                && Modifier.isPublic(constructors[0].getModifiers()));
        Set<String> constants = new TreeSet<>();
        for (Field f : c.getDeclaredFields()) {
            int is = f.getModifiers();
            if (!Modifier.isPrivate(is)) constants.add(f.getType().getSimpleName() + " " + f.getName());
            if (!Modifier.isPrivate(is)) due(f.getName(), Modifier.isPublic(is) && Modifier.isStatic(is) && Modifier.isFinal(is));
            if (Modifier.isStatic(is)) due(f.getName() + " is final", Modifier.isFinal(is));
        }
        due("the constants are " + constants, constants.equals(Set.of("int NONE", "int BAD", "int STATE", "int FULL", "long NO")));
        Due.due("NONE", JustFivePounds.NONE, -1);
        Due.due("BAD", JustFivePounds.BAD, -2);
        Due.due("STATE", JustFivePounds.STATE, -3);
        Due.due("FULL", JustFivePounds.FULL, -4);
        Due.due("NO", JustFivePounds.NO, -4611686018427387904L);
    }

    private static void inside(Class<?> c) {
        due("not too many classes", c.getDeclaredClasses().length + 1 <= 12);
        List<Class<?>> all = new ArrayList<>(Arrays.asList(c.getDeclaredClasses()));
        all.add(c);
        for (Class<?> one : all) {
            int fields = 0;
            if (one != c) {
                int is = one.getModifiers();
                due(one + " is static and not public", Modifier.isStatic(is) && !Modifier.isPublic(is) && !Modifier.isProtected(is));
            }
            for (Field f : one.getDeclaredFields()) {
                if (!Modifier.isStatic(f.getModifiers())) fields++;
                else due(f + " is final", Modifier.isFinal(f.getModifiers()));
            }
            due(one + " has not too many fields", fields <= 20);
            for (Method m : one.getDeclaredMethods()) {
                due(m + " takes not too many", m.getParameterCount() <= 7);
                due(m + " is of nobody else", !m.isSynthetic());
            }
        }
    }

    private static void source(String source) {
        String bare = source.replaceAll("(?s)/\\*.*?\\*/", " ").replaceAll("//[^\n]*", " ").replaceAll("\"[^\"\n]*\"", "\"\"");
        for (String no : new String[] {"throw", "throws", "try", "catch", "finally", "synchronized", "assert", "package", "import",
            "instanceof", "toString", "hashCode", "Object", "System\\.out", "Random", "Thread", "volatile", "native", "goto",
            "\\w+Exact", "var", "float", "double"}) {
            due("no " + no, !Pattern.compile("\\b" + no + "\\b").matcher(bare).find());
        }
        due("no lambda", !bare.contains("->"));
        due("no method reference", !bare.contains("::"));
        due("no static block", !Pattern.compile("static\\s*\\{").matcher(bare).find());
        due("no while", !Pattern.compile("\\bwhile\\b").matcher(bare).find());
        due("no shared name", !bare.contains("this)"));
        due("signs 1 to 127 alone", source.chars().allMatch(ch -> ch > 0 && ch < 128));
        // the library: of Math these, of String length and charAt
        Set<String> library = Set.of("Math.min(", "Math.max(", "Math.abs(", "FIRST_LAW.length(", "FIRST_LAW.charAt(");
        Matcher m = Pattern.compile("\\b[A-Z]\\w*\\.\\w+\\(").matcher(bare);
        while (m.find()) due("library: " + m.group(), library.contains(m.group()));
        m = Pattern.compile("\\bnew (\\w+)").matcher(bare);
        Set<String> made = new TreeSet<>();
        while (m.find()) made.add(m.group(1));
        due("made: " + made, made.equals(Set.of("int", "State", "Hand", "Text", "Tape", "Sheet", "Stop", "Best")));
        String[] lines = bare.split("\n");
        int start = 0;
        for (int i = 0; i < lines.length; i++) {
            if (lines[i].matches("^ {4}(?: {4})?\\S.*\\) \\{$")) start = i;
            if (lines[i].matches("^ {4}(?: {4})?}$")) due("short method at line " + start, lines[start].contains("class") || i - start <= 60);
        }
    }

    /** The dearest calls make nothing: the room of a run is for its objects alone. */
    private static void room() {
        com.sun.management.ThreadMXBean made =
                (com.sun.management.ThreadMXBean) java.lang.management.ManagementFactory.getThreadMXBean();
        JustFivePounds x = new JustFivePounds();
        for (int h = 0; h < 5; h++) x.hand(40 + h, 10 + h, 40);
        Due.row(x, 0, 2, 501, 500, 500);
        long before = made.getCurrentThreadAllocatedBytes();
        for (int i = 0; i < 500; i++) {
            x.fits(0, 0, 20);
            x.ahead(1, 0);
            x.change(2, 1);
            x.rule(0, 0, 0);
            x.film(1, 0);
            x.image();
            x.back();
            x.sheet(2, 2, 40);
            x.feed(5, 'r', 'u', 'n', 's', '1');
            x.text();
            x.whose(0, 0);
        }
        long bytes = made.getCurrentThreadAllocatedBytes() - before;
        due("5500 calls made " + bytes + " bytes", bytes < 20000);
    }

    public static void main(String[] args) throws Exception {
        face(Files.readString(DOCUMENT, StandardCharsets.UTF_8));
        inside(JustFivePounds.class);
        source(Files.readString(SOURCE, StandardCharsets.ISO_8859_1));
        room();
        Due.end("FaceTest");
    }
}
