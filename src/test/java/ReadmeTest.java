import java.lang.reflect.Method;
import java.lang.reflect.Modifier;
import java.net.URL;
import java.net.URLClassLoader;
import java.nio.file.DirectoryStream;
import java.nio.file.Files;
import java.nio.file.Path;
import java.util.ArrayList;
import java.util.List;
import java.util.Map;
import java.util.TreeMap;
import java.util.TreeSet;
import java.util.function.Supplier;
import java.util.regex.Matcher;
import java.util.regex.Pattern;
import javax.tools.ToolProvider;

/** README.md: its examples compile as they stand and answer what is written behind them; its tables hold. */
public final class ReadmeTest {
    private static final Pattern EXAMPLES = Pattern.compile("(?s)```java\n(.*?)```");
    private static final Pattern ANSWERED = Pattern.compile("(scale\\.\\w+\\([^;]*\\)); *// ([-\\w]+): .*");
    private static final Pattern CALL = Pattern.compile("`(\\w+)(?:\\([^`]*\\))?`");
    private static final int FAULT_AT = -1000100;
    private static final int[] EDGES = {Integer.MIN_VALUE, -2, -1, 0, 1, 2, 3, 7, 8, 41, Integer.MAX_VALUE};

    private final Checks c = new Checks("Readme");
    private final String page;

    private ReadmeTest(String page) {
        this.page = page;
    }

    public static void main(String[] args) throws Exception {
        ReadmeTest test = new ReadmeTest(Files.readString(Path.of("README.md")));
        test.examples();
        test.calls();
        test.tests();
        test.refusals();
        test.c.end();
    }

    /** Of each answered line its answer is kept, with the one that is due; all else is compiled as it stands. */
    private void examples() throws Exception {
        StringBuilder code = new StringBuilder("import java.util.*;\n");
        code.append("public final class ReadmeExamples implements java.util.function.Supplier<List<int[]>> {\n");
        code.append("public List<int[]> get() {\n");
        code.append("List<int[]> answers = new ArrayList<>();\nfinal int NONE = YesterdayScale.NONE;\n");
        List<String> calls = new ArrayList<>();
        Matcher blocks = EXAMPLES.matcher(page);
        while (blocks.find()) {
            for (String line : blocks.group(1).split("\n")) {
                Matcher answered = ANSWERED.matcher(line);
                if (answered.matches()) {
                    calls.add(answered.group(1));
                    code.append("answers.add(new int[] {" + answered.group(1) + ", " + answered.group(2) + "});\n");
                } else {
                    c.hold("a call has its answer behind it: " + line, !line.startsWith("scale."));
                    code.append(line).append('\n');
                }
            }
        }
        c.hold("examples were found: " + calls.size(), calls.size() > 20);
        List<?> answers = answersOf(code.append("return answers;\n} }\n").toString());
        c.due("answers", answers.size(), calls.size());
        for (int i = 0; i < answers.size(); i++) {
            int[] answer = (int[]) answers.get(i);
            c.due(calls.get(i), answer[0], answer[1]);
        }
    }

    private List<?> answersOf(String code) throws Exception {
        Path place = Files.createTempDirectory("readme");
        Path source = Files.writeString(place.resolve("ReadmeExamples.java"), code);
        String classes = System.getProperty("java.class.path");
        String[] options = {"-proc:none", "-cp", classes, "-d", place.toString(), source.toString()};
        try (URLClassLoader loader = new URLClassLoader(new URL[] {place.toUri().toURL()})) {
            int failed = ToolProvider.getSystemJavaCompiler().run(null, null, null, options);
            c.due("the examples compile", failed, 0);
            if (failed != 0) {
                return List.of();
            }
            Object examples = loader.loadClass("ReadmeExamples").getConstructor().newInstance();
            return (List<?>) ((Supplier<?>) examples).get();
        } finally {
            Files.deleteIfExists(place.resolve("ReadmeExamples.class"));
            Files.delete(source);
            Files.delete(place);
        }
    }

    private static List<Method> face() {
        List<Method> face = new ArrayList<>();
        for (Method method : YesterdayScale.class.getDeclaredMethods()) {
            if (Modifier.isPublic(method.getModifiers())) {
                face.add(method);
            }
        }
        return face;
    }

    private void calls() {
        for (Method method : face()) {
            boolean shown = Pattern.compile("[`.]" + method.getName() + "\\(").matcher(page).find();
            c.hold("the page shows " + method.getName(), shown);
        }
    }

    private void tests() throws Exception {
        try (DirectoryStream<Path> files = Files.newDirectoryStream(Path.of("src/test/java"), "*Test.java")) {
            for (Path file : files) {
                String name = file.getFileName().toString().replace(".java", "");
                c.hold("the page tells what " + name + " is for", page.contains("| `" + name + "` | "));
            }
        }
    }

    /** Of each refusal the calls that its line names, against those that odd numbers get it from. */
    private void refusals() throws ReflectiveOperationException {
        Map<Integer, TreeSet<String>> seen = new TreeMap<>();
        for (Method method : face()) {
            for (YesterdayScale x : states()) {
                see(seen, x, method, new Object[method.getParameterCount()], 0);
            }
        }
        for (int answer : seen.keySet()) {
            Matcher line = Pattern.compile("(?m)^\\|[^|]*" + answer + " \\|[^|]*\\|([^|]*)\\|$").matcher(page);
            TreeSet<String> named = line.find() ? named(line.group(1)) : new TreeSet<>();
            c.hold(answer + " is answered by " + seen.get(answer) + ", the page says " + named,
                named.equals(seen.get(answer)));
        }
        c.due("refusals seen", seen.size(), 9);
    }

    /** The calls that a line names, or all that take numbers but those that it names. */
    private static TreeSet<String> named(String words) {
        TreeSet<String> named = new TreeSet<>();
        Matcher names = CALL.matcher(words);
        while (names.find()) {
            named.add(names.group(1));
        }
        if (!words.startsWith(" all that take numbers, but ")) {
            return named;
        }
        TreeSet<String> others = new TreeSet<>();
        for (Method method : face()) {
            if (method.getParameterCount() > 0 && !named.contains(method.getName())) {
                others.add(method.getName());
            }
        }
        return others;
    }

    /** No PORT, and a full tape; a PORT; one of 24 DAYS. All have ROWS, made anew for each call that is looked at. */
    private static List<YesterdayScale> states() {
        YesterdayScale none = new YesterdayScale();
        for (int i = 0; i < 50; i++) {
            none.feed(' ', 8);
        }
        YesterdayScale some = Checks.with("law 2 0 50;thing salt 3;thing fish 6;day 1;day 2;");
        YesterdayScale many = Checks.with("law 2 0 50;thing salt 3;thing fish 6;");
        for (int i = 0; i < 24; i++) {
            many.day(0);
        }
        List<YesterdayScale> states = List.of(none, some, many);
        for (YesterdayScale x : states) {
            Checks.tell(x, 1, 3, -1, 0);
            x.row(2, 0, 8);
            x.set(2, 0, -2);
        }
        return states;
    }

    private static void see(Map<Integer, TreeSet<String>> seen, YesterdayScale x, Method method, Object[] given, int at)
        throws ReflectiveOperationException {
        if (at < given.length) {
            for (int edge : EDGES) {
                given[at] = method.getParameterTypes()[at] == long.class ? (Object) (long) edge : (Object) edge;
                see(seen, x, method, given, at + 1);
            }
            return;
        }
        int answer = (int) method.invoke(x, given);
        if (answer <= YesterdayScale.NONE && answer > FAULT_AT) {
            seen.computeIfAbsent(answer, key -> new TreeSet<>()).add(method.getName());
        }
    }
}
