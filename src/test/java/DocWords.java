import java.io.IOException;
import java.nio.file.Files;
import java.nio.file.Path;
import java.util.Arrays;
import java.util.Map;
import java.util.TreeMap;

/** No test: tells which words of the document, whose path is the argument, no test of boundary cases quotes. */
public final class DocWords {
    private static final int TERMS = 0;

    /** By promises, and the terms under 0: the words, without what stands round them. */
    private static Map<Integer, String> sections(String doc) {
        Map<Integer, String> all = new TreeMap<>();
        for (String part : doc.split("(?m)^## ")) {
            String head = part.lines().findFirst().orElse(""), body = part.substring(head.length());
            if (head.startsWith("Promise ")) {
                int number = Integer.parseInt(head.substring(8, head.indexOf(':')));
                all.put(number, plain(body.substring(body.indexOf("`: ") + 3)));
            } else if (head.equals("Terms")) {
                all.merge(TERMS, plain(body.replaceAll("(?m)^```.*$|^==== \\d |^Ahead of the calls.*$", "")), (a, b) -> a + " " + b);
            } else if (head.equals("What it is")) {
                all.merge(TERMS, plain(body.substring(body.indexOf("An object"))), (a, b) -> a + " " + b);
            }
        }
        return all;
    }

    private static String plain(String text) {
        return text.replaceAll("\\s+", " ").trim();
    }

    private static void mark(String text, String words, boolean[] marked) {
        int at = text.indexOf(words);
        if (at < 0) System.out.println("quoted, but not there: " + words);
        for (; at >= 0; at = text.indexOf(words, at + 1)) Arrays.fill(marked, at, at + words.length(), true);
    }

    public static void main(String[] args) throws IOException {
        Map<Integer, String> sections = sections(Files.readString(Path.of(args[0])));
        PeopleBoundsTest.all();
        MeetingBoundsTest.all();
        FactBoundsTest.all();
        SlipBoundsTest.all();
        TradeBoundsTest.all();
        SheetBoundsTest.all();
        for (int section : sections.keySet()) {
            String text = sections.get(section);
            boolean[] marked = new boolean[text.length()];
            for (String[] quoted : Calls.QUOTED) if (quoted[0].equals("" + section)) mark(text, quoted[1], marked);
            StringBuilder left = new StringBuilder();
            for (int k = 0; k < text.length(); k++) left.append(marked[k] ? '\n' : text.charAt(k));
            left.toString().lines().filter(each -> each.matches(".*\\w.*"))
                .forEach(each -> System.out.println((section == TERMS ? "terms" : "promise " + section) + ": " + each.trim()));
        }
    }
}
