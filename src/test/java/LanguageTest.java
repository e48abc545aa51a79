import java.lang.reflect.Executable;
import java.lang.reflect.Field;
import java.lang.reflect.Method;
import java.lang.reflect.Modifier;
import java.nio.file.Files;
import java.nio.file.Path;
import java.util.ArrayList;
import java.util.List;
import java.util.Set;
import java.util.TreeSet;
import java.util.regex.Matcher;
import java.util.regex.Pattern;

/** The rules of LANGUAGE.md that a look at the class and its text can tell. */
public final class LanguageTest {
    private static final Path SOURCE = Path.of("src/main/java/YesterdayScale.java");
    private static final Set<String> FACE = Set.of("row", "set", "copy", "drop", "feed", "port", "fault", "day", "undo",
        "shown", "heavy", "next", "fits", "sure", "gap", "wrong", "soon", "laws", "error", "sold", "image", "restore",
        "kind", "as", "ask", "trace", "count", "status");
    private static final Set<String> LIBRARY = Set.of("System.arraycopy", "Integer.bitCount");

    public static void main(String[] args) throws Exception {
        Checks c = new Checks("Language");
        face(c);
        classes(c);
        text(c, bare(Files.readString(SOURCE)));
        c.end();
    }

    private static void face(Checks c) {
        Class<?> scale = YesterdayScale.class;
        c.hold("public and final", scale.getModifiers() == (Modifier.PUBLIC | Modifier.FINAL));
        c.due("constructors", scale.getDeclaredConstructors().length, 1);
        Set<String> open = new TreeSet<>();
        for (Method method : scale.getDeclaredMethods()) {
            if (!Modifier.isPrivate(method.getModifiers())) {
                c.hold(method + " is public and of an object", method.getModifiers() == Modifier.PUBLIC);
                c.hold(method + " stands alone", open.add(method.getName()));
            }
        }
        c.hold("the face: " + open, open.equals(new TreeSet<>(FACE)));
        for (Field field : scale.getDeclaredFields()) {
            boolean constant = Set.of("NONE", "BAD", "STATE", "FULL").contains(field.getName());
            c.hold(field + " is as open as told", constant == !Modifier.isPrivate(field.getModifiers()));
        }
    }

    private static List<Class<?>> all() {
        List<Class<?>> all = new ArrayList<>(List.of(YesterdayScale.class.getDeclaredClasses()));
        all.add(YesterdayScale.class);
        return all;
    }

    private static void classes(Checks c) {
        c.hold("at most twelve classes", all().size() <= 12);
        for (Class<?> each : all()) {
            boolean inside = each != YesterdayScale.class;
            c.hold(each + " is static", !inside || Modifier.isStatic(each.getModifiers()));
            int fields = 0;
            for (Field field : each.getDeclaredFields()) {
                boolean still = Modifier.isStatic(field.getModifiers());
                c.hold(field + " is final", !still || Modifier.isFinal(field.getModifiers()));
                fields += still ? 0 : 1;
            }
            c.hold(each + " has at most twenty fields", fields <= 20);
            for (Method method : each.getDeclaredMethods()) {
                c.hold(method + " has few parameters", method.getParameterCount() <= 7);
                boolean open = !inside && Modifier.isPublic(method.getModifiers());
                c.hold(method + " has a name of its own", open || !FACE.contains(method.getName()));
                c.hold(method + " is written out", !method.isSynthetic());
            }
            for (Executable made : each.getDeclaredConstructors()) {
                c.hold(made + " has few parameters", made.getParameterCount() <= 7);
            }
        }
    }

    /** The text without its comments, and with its texts and signs made empty. */
    private static String bare(String text) {
        return text.replaceAll("(?s)/\\*.*?\\*/", "").replaceAll("//[^\n]*", "")
            .replaceAll("\"[^\"\n]*\"", "\"\"").replaceAll("'\\\\?.'", "0");
    }

    private static void text(Checks c, String text) {
        for (String word : List.of("throw", "throws", "try", "catch", "finally", "synchronized", "assert", "import",
            "package", "native", "volatile", "transient", "Object", "double", "float")) {
            c.hold("no " + word, !Pattern.compile("\\b" + word + "\\b").matcher(text).find());
        }
        for (String sign : List.of("->", "::", "@", "\" +", "+ \"", "[][]")) {
            c.hold("no " + sign, !text.contains(sign));
        }
        Matcher calls = Pattern.compile("\\b(?:System|Math|Integer|Long|Byte|Short|Arrays|List|String)\\.\\w+")
            .matcher(text);
        while (calls.find()) {
            c.hold(calls.group() + " is in the library", LIBRARY.contains(calls.group()));
        }
        Matcher bodies = Pattern.compile("(?m)^( +)[\\w\\[\\] ]+\\([^;{]*\\) \\{\n(?s:.*?)^\\1\\}").matcher(text);
        int methods = 0;
        while (bodies.find()) {
            methods++;
            String head = bodies.group().lines().findFirst().orElse("").trim();
            c.hold(head + " is short", bodies.group().lines().count() <= 60);
        }
        c.hold("methods were found: " + methods, methods > 80);
        c.hold("lines fit a page", text.lines().allMatch(line -> line.length() <= 120));
    }
}
