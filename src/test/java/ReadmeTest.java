import java.io.IOException;
import java.lang.reflect.Method;
import java.lang.reflect.Modifier;
import java.nio.file.Files;
import java.nio.file.Path;
import java.util.ArrayList;
import java.util.List;
import java.util.Map;
import java.util.TreeMap;
import java.util.regex.Matcher;
import java.util.regex.Pattern;

/** README.md, whose path is the argument: its lines of Java answer what stands behind them, and it tells every call. */
public final class ReadmeTest {
    private static final Pattern CALL = Pattern.compile("night\\.(\\w+)\\((.*)\\); +// (-?\\w+)(:.*)?");
    private static final Pattern TOLD = Pattern.compile("(?m)^\\| `(\\w+)\\(([^)]*)\\)` \\|");
    private static int wrong = 0;

    private static void fault(String what) {
        wrong++;
        System.out.println(what);
    }

    /** What a class has of public methods, by name; none has the name of another. */
    private static Map<String, Method> face() {
        Map<String, Method> all = new TreeMap<>();
        for (Method m : CoatRings.class.getDeclaredMethods()) if (Modifier.isPublic(m.getModifiers())) all.put(m.getName(), m);
        return all;
    }

    private static List<String> parts(String text) {
        return text.isEmpty() ? List.of() : List.of(text.split(", "));
    }

    private static Object argument(Class<?> type, String text) {
        if (type == boolean.class) return Boolean.valueOf(text);
        if (type == long.class) return Long.decode(text.replace("L", ""));
        return Integer.valueOf(text);
    }

    private static int answer(String text) throws ReflectiveOperationException {
        return text.matches("-?\\d+") ? Integer.parseInt(text) : CoatRings.class.getField(text).getInt(null);
    }

    private static void done(CoatRings night, Matcher line, Method call) throws ReflectiveOperationException {
        List<String> texts = parts(line.group(2));
        Object[] with = new Object[texts.size()];
        for (int k = 0; k < with.length; k++) with[k] = argument(call.getParameterTypes()[k], texts.get(k));
        int got = (Integer) call.invoke(night, with), want = answer(line.group(3));
        if (got != want) fault(line.group() + " answered " + got);
    }

    private static void examples(String text, Map<String, Method> face) throws ReflectiveOperationException {
        CoatRings night = null;
        int lines = 0;
        Matcher blocks = Pattern.compile("(?s)```java\n(.*?)```").matcher(text);
        while (blocks.find()) {
            for (String each : blocks.group(1).split("\n")) {
                Matcher line = CALL.matcher(each);
                if (each.equals("CoatRings night = new CoatRings();")) {
                    night = new CoatRings();
                } else if (night != null && line.matches() && face.containsKey(line.group(1))) {
                    done(night, line, face.get(line.group(1)));
                    lines++;
                } else {
                    fault("no call with its answer: " + each);
                }
            }
        }
        if (lines == 0) fault("there are no examples");
    }

    private static void calls(String text, Map<String, Method> face) {
        List<String> told = new ArrayList<>();
        Matcher calls = TOLD.matcher(text);
        while (calls.find()) {
            Method call = face.get(calls.group(1));
            told.add(calls.group(1));
            if (call == null || call.getParameterCount() != parts(calls.group(2)).size()) fault("there is no " + calls.group());
        }
        for (String name : face.keySet()) if (!told.contains(name)) fault("not told: " + name);
    }

    private static void constants(String text) throws ReflectiveOperationException {
        for (String name : List.of("BAD", "NOT", "FULL", "NONE", "NULL", "CAST", "INDEX", "SIZE")) {
            if (!text.contains("| `" + name + "` | " + answer(name) + " |")) fault("not told as it is: " + name);
        }
    }

    public static void main(String[] args) throws IOException, ReflectiveOperationException {
        String text = Files.readString(Path.of(args.length > 0 ? args[0] : "README.md"));
        Map<String, Method> face = face();
        examples(text, face);
        calls(text, face);
        constants(text);
        System.out.println(wrong == 0 ? "README.md tells what is" : wrong + " things in README.md are not so");
        if (wrong != 0) System.exit(1);
    }
}
