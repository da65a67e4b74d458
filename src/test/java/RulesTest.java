import java.io.IOException;
import java.lang.reflect.Constructor;
import java.lang.reflect.Field;
import java.lang.reflect.Method;
import java.lang.reflect.Modifier;
import java.nio.file.Files;
import java.nio.file.Path;
import java.util.ArrayList;
import java.util.List;
import java.util.Set;
import java.util.TreeSet;
import java.util.regex.Matcher;
import java.util.regex.Pattern;

/** What can be seen of LANGUAGE.md's rules from outside; its argument is the path of CoatRings.java. */
public final class RulesTest {
    private static final Set<String> FACE = new TreeSet<>(List.of(
        "person(int, int, int)", "told(int, int)", "marks(int, int)", "likes(int, int, int)", "wont(int, boolean)",
        "table(int, int, int)", "inn(int, int)", "set(int, int)", "count(int)", "meet(int)", "well()", "fewest()", "plan(int)",
        "atOnce(int)", "type(long, int)", "facts()", "forget()", "may(int, int)", "worlds()", "sure(int)", "next(int)",
        "explained(int, int)", "fear(int, int, int)", "harm(int, int, int, int)", "best(int)", "trade(int)",
        "blocks(int, int, int)", "image()", "restore()", "sheet(int, int, int)", "drop(int)", "item(int, int, int, int)",
        "copy(int, int, int, int, int)"));
    private static final Set<String> CONSTANTS = Set.of("BAD", "NOT", "FULL", "NONE", "NULL", "CAST", "INDEX", "SIZE");
    private static int wrong = 0;

    private static void must(boolean holds, String what) {
        if (!holds) {
            wrong++;
            System.out.println("broken: " + what);
        }
    }

    private static void face() {
        Class<?> c = CoatRings.class;
        must(Modifier.isFinal(c.getModifiers()) && Modifier.isPublic(c.getModifiers()), "1: the class is public and final");
        Set<String> seen = new TreeSet<>(), names = new TreeSet<>();
        for (Method m : c.getDeclaredMethods()) {
            if (!Modifier.isPublic(m.getModifiers())) {
                must(Modifier.isPrivate(m.getModifiers()), "1: " + m.getName() + " is public or private");
                continue;
            }
            List<String> types = new ArrayList<>();
            for (Class<?> t : m.getParameterTypes()) types.add(t.getName());
            seen.add(m.getName() + "(" + String.join(", ", types) + ")");
            names.add(m.getName());
            must(m.getReturnType() == int.class && !Modifier.isStatic(m.getModifiers()), "1: " + m.getName() + " answers an int");
        }
        must(seen.equals(FACE), "1: the face is as told: " + seen);
        for (Class<?> k : classes()) {
            for (Method m : k.getDeclaredMethods()) {
                must(k == c && Modifier.isPublic(m.getModifiers()) || !names.contains(m.getName()), "1: no other " + m.getName());
            }
        }
        for (Constructor<?> made : c.getDeclaredConstructors()) {
            must(Modifier.isPublic(made.getModifiers()) && made.getParameterCount() == 0, "1: one constructor");
        }
        for (Field f : c.getDeclaredFields()) {
            boolean constant = CONSTANTS.contains(f.getName());
            must(constant == Modifier.isPublic(f.getModifiers()), "1: " + f.getName());
            must(constant || Modifier.isPrivate(f.getModifiers()), "1: " + f.getName() + " is private");
        }
    }

    private static List<Class<?>> classes() {
        List<Class<?>> all = new ArrayList<>(List.of(CoatRings.class));
        for (Class<?> k : CoatRings.class.getDeclaredClasses()) all.add(k);
        return all;
    }

    private static void shapes() {
        must(classes().size() <= 12, "11: at most twelve classes");
        for (Class<?> k : classes()) {
            int fields = 0;
            for (Field f : k.getDeclaredFields()) {
                if (Modifier.isStatic(f.getModifiers())) {
                    must(Modifier.isFinal(f.getModifiers()) && f.getType() == int.class, "5: " + f);
                } else {
                    fields++;
                }
            }
            must(fields <= 20, "11: fields of " + k.getName());
            for (Method m : k.getDeclaredMethods()) must(m.getParameterCount() <= 7, "11: parameters of " + m);
            must(k == CoatRings.class || Modifier.isStatic(k.getModifiers()), "1: static " + k.getName());
        }
    }

    private static void source(String text) {
        String code = text.replaceAll("(?s)/\\*.*?\\*/", "").replaceAll("//[^\n]*", "");
        must(code.chars().allMatch(ch -> ch < 127), "4: signs of the source");
        String[] never = {"->", "::", "\\bcatch\\b", "\\btry\\b", "\\bthrow\\b", "\\bfinally\\b", "\\bassert\\b",
            "\\bsynchronized\\b", "\\bpackage\\b", "\\bprotected\\b", "\\binstanceof\\b", "\\bdouble\\b", "\\bfloat\\b",
            "Exact\\b", "\\bMAX_VALUE\\b", "\\bMIN_VALUE\\b", "static \\{", "\\bvar\\b", "\"", "\\bRandom\\b", "\\bclone\\b"};
        for (String n : never) must(!Pattern.compile(n).matcher(code).find(), "no " + n + " in the source");
        Matcher imports = Pattern.compile("import ([^;]*);").matcher(code);
        while (imports.find()) must(imports.group(1).equals("java.util.Arrays"), "4: import " + imports.group(1));
        Matcher calls = Pattern.compile("\\b(System|Arrays|Math|Integer|Long)\\.(\\w+)").matcher(code);
        Set<String> known = Set.of("System.arraycopy", "Arrays.fill", "Math.abs", "Math.max", "Math.min", "Integer.bitCount",
            "Integer.numberOfTrailingZeros");
        while (calls.find()) must(known.contains(calls.group()), "4: " + calls.group());
        lengths(text);
    }

    private static void lengths(String text) {
        String[] lines = text.split("\n");
        int from = -1;
        for (int k = 0; k < lines.length; k++) {
            boolean opens = lines[k].matches(" {4}( {4})?[^ *].*\\) \\{") && !lines[k].contains("class ");
            if (opens && from < 0) from = k;
            if (from >= 0 && lines[k].matches(" {4}( {4})?\\}") && lines[k].indexOf('}') == lines[from].length() - lines[from].stripLeading().length()) {
                must(k - from < 60, "11: the method of line " + (from + 1) + " is short");
                from = -1;
            }
        }
    }

    public static void main(String[] args) throws IOException {
        face();
        shapes();
        source(Files.readString(Path.of(args.length > 0 ? args[0] : "src/main/java/CoatRings.java")));
        System.out.println(wrong == 0 ? "all rules hold" : wrong + " rules are broken");
        if (wrong != 0) System.exit(1);
    }
}
