import java.util.ArrayList;
import java.util.List;
import java.util.TreeSet;
import java.util.function.Supplier;
import java.util.function.ToIntFunction;

/** What tests of single calls have in common: the words of the document that are tested, what is due, nights to begin with. */
abstract class Calls {
    static final int BAD = -1, NOT = -2, FULL = -3, NONE = -4, NULL = -11, CAST = -12, INDEX = -13, SIZE = -14;
    static final int MIN = Integer.MIN_VALUE, MAX = Integer.MAX_VALUE;
    /** The lowest bits of many of these would be fine by themselves. */
    private static final int[] WILD = {MIN, MIN + 1, MIN + 100, -(1 << 30), -65536, -256, -64, -32, -8, 6, 7, 8, 16, 32, 33, 64, 128,
        256, 257, 65536, 65537, 1 << 24, 1 << 30, MAX - 1, MAX};
    /** Of each quotation the promise (0: the terms) and the words. */
    static final List<String[]> QUOTED = new ArrayList<>();
    private static String tested = "";
    private static boolean begun = true;
    private static int wrong = 0;

    /** What follows tests these words of a promise (0: of the terms, or ahead of them); words told next to each other are tested together. */
    static void says(int promise, String words) {
        QUOTED.add(new String[] {Integer.toString(promise), words});
        String now = (promise == 0 ? "terms" : "promise " + promise) + ", \"" + words + "\"";
        of(begun ? now : tested + " and " + now);
    }

    static void of(String what) {
        tested = what;
        begun = false;
    }

    static void due(String call, int got, int want) {
        begun = true;
        if (got != want) fault(call + " answered " + got + ", due is " + want);
    }

    private static void fault(String what) {
        wrong++;
        System.out.println(tested + ": " + what);
    }

    static void end() {
        System.out.println(wrong == 0 ? "all answers are as due" : wrong + " answers are not as due");
        if (wrong != 0) System.exit(1);
    }

    /** Numbers outside of low .. high: the next ones, and wild ones. */
    static int[] outside(int low, int high) {
        TreeSet<Integer> all = new TreeSet<>(List.of(low - 1, high + 1));
        for (int v : WILD) if (v < low || v > high) all.add(v);
        return all.stream().mapToInt(Integer::intValue).toArray();
    }

    // ---- nights

    /** People on a line: person k at (k, 0) times step, with marks 1 << k. */
    static CoatRings line(int people, int step) {
        CoatRings x = new CoatRings();
        for (int k = 0; k < people; k++) due("person", x.person(k * step, 0, 1 << k), k);
        return x;
    }

    /** People whose homes are told as x and y by turns. */
    static CoatRings homes(int... at) {
        CoatRings x = new CoatRings();
        for (int k = 0; k + 1 < at.length; k += 2) due("person", x.person(at[k], at[k + 1], 0), k / 2);
        return x;
    }

    static void lay(CoatRings x, int sheet, int lane, int... items) {
        due("sheet", x.sheet(sheet, lane, items.length), items.length);
        for (int k = 0; k < items.length; k++) due("item", x.item(sheet, lane, k, items[k]), 1);
    }

    /** Uses sheet 3, which holds nothing then. */
    static CoatRings with(CoatRings x, int... has) {
        lay(x, 3, 0, has);
        int astray = 0;
        for (int k = 0; k < has.length; k++) astray += has[k] == k ? 0 : 1;
        due("table", x.table(3, 0, 0), astray);
        due("drop", x.drop(3), has.length);
        return x;
    }

    static CoatRings wont(CoatRings x, int... who) {
        for (int p : who) due("wont", x.wont(p, true), 0);
        return x;
    }

    static void has(CoatRings x, int... coats) {
        for (int p = 0; p < coats.length; p++) due("told(" + p + ", 3)", x.told(p, 3), coats[p]);
    }

    static void type(CoatRings x, String text) {
        for (int k = 0; k < text.length(); k++) x.type(text.charAt(k), 1);
    }

    static void facts(CoatRings x, String text, int want) {
        type(x, text);
        due("facts of '" + text + "'", x.facts(), want);
    }

    /** Something of everything: five people, one of whom won't; sheet 3 holds nothing; "c!c" stands on the tape. */
    static CoatRings night() {
        CoatRings x = homes(2, 3, 7, 1, 4, 9);
        x.marks(0, 5);
        x.marks(1, 10);
        x.inn(5, 5);
        x.fear(1, 0, 2);
        x.meet(2);
        x.image();
        x.person(12, 6, 63);
        x.person(0, 19, 33);
        x.inn(9, 2);
        x.set(0, 3);
        x.set(1, 2);
        x.likes(0, 3, 9);
        x.likes(1, 1, 0);
        x.likes(2, 4, 7);
        x.likes(3, 0, 6);
        x.fear(0, 1, 3);
        lay(x, 0, 0, 9, 1, 2, 0, 4, 3, 9);
        lay(x, 1, 1, 4, 3, 2, 1, 0);
        lay(x, 2, 2, 0, 1, 2, 3, 4);
        x.table(0, 0, 1);
        x.wont(4, true);
        type(x, "a!a;b-1");
        x.facts();
        type(x, "c!c");
        return x;
    }

    /** As many of all as there may be; 97 signs on the tape; sheet 0 holds an order of six, and one that is none. */
    static CoatRings full() {
        CoatRings x = homes(0, 0, 19, 0, 3, 8, 19, 19, 7, 7, 0, 19);
        for (int k = 0; k < 4; k++) x.inn(5 * k, 19 - k);
        for (int k = 0; k < 6; k++) x.fear(k % 3, k % 2, 5 - k % 3);
        lay(x, 0, 0, 5, 4, 3, 2, 1, 0, 0);
        x.table(0, 0, 0);
        x.image();
        for (int k = 0; k < 12; k++) x.type(0x2020202020202020L, 8);
        x.type(97, 1);
        return x;
    }

    // ---- what refused calls change

    /** A call on the night is answered so, and nothing is another one behind it. */
    static void refused(String call, ToIntFunction<CoatRings> done, int want) {
        refused(Calls::night, call, done, want);
    }

    static void refused(Supplier<CoatRings> begun, String call, ToIntFunction<CoatRings> done, int want) {
        CoatRings x = begun.get();
        due(call, done.applyAsInt(x), want);
        alike(call, x, begun.get());
    }

    /** All that can be seen of one is like all that can be seen of the other; both are used up. */
    static void alike(String behind, CoatRings x, CoatRings y) {
        List<String> one = seen(x), other = seen(y);
        for (int k = 0; k < Math.min(one.size(), other.size()); k++) {
            if (!one.get(k).equals(other.get(k))) {
                fault("behind " + behind + " " + one.get(k) + ", due is " + other.get(k));
                return;
            }
        }
        if (one.size() != other.size()) fault("behind " + behind + " more or less is to be seen");
    }

    private static List<String> seen(CoatRings x) {
        List<String> all = new ArrayList<>();
        see(x, all);
        seeSheets(x, all);
        note(all, "facts()", x.facts());
        for (int p = 0; p < x.count(0); p++) note(all, "may(" + p + ", 0)", x.may(p, 0));
        int kept = x.restore();
        note(all, "restore()", kept);
        if (kept == 1) see(x, all);
        return all;
    }

    private static int note(List<String> all, String call, int got) {
        all.add(call + " answered " + got);
        return got;
    }

    private static void see(CoatRings x, List<String> all) {
        for (int w = 0; w < 8; w++) note(all, "count(" + w + ")", x.count(w));
        int people = x.count(0);
        for (int p = 0; p < people; p++) {
            for (int w = 0; w < 8; w++) note(all, "told(" + p + ", " + w + ")", x.told(p, w));
            for (int w = 0; w < 2; w++) note(all, "may(" + p + ", " + w + ")", x.may(p, w));
            note(all, "sure(" + p + ")", x.sure(p));
            note(all, "trade(" + p + ")", x.trade(p));
        }
        int meetings = note(all, "plan(-2)", x.plan(-2));
        note(all, "plan(-1)", x.plan(-1));
        for (int k = 0; k < meetings; k++) note(all, "plan(" + k + ")", x.plan(k));
        note(all, "well()", x.well());
        note(all, "fewest()", x.fewest());
        for (int w = 0; w < 2; w++) note(all, "atOnce(" + w + ")", x.atOnce(w));
        note(all, "worlds()", x.worlds());
        for (int w = 0; w < 2; w++) note(all, "next(" + w + ")", x.next(w));
        for (int w = -2; w < 2; w++) note(all, "explained(7, " + w + ")", x.explained(7, w));
        for (int k = -2; k < people; k++) note(all, "best(" + k + ")", x.best(k));
        for (int p = 0; p < people; p++) {
            for (int c = 0; c < people; c++) note(all, "likes(" + p + ", " + c + ", 1)", x.likes(p, c, 1));
        }
        note(all, "set(0, 1)", x.set(0, 1));
        note(all, "set(1, 2)", x.set(1, 2));
    }

    /** Only orders of all people are seen of what sheets hold. */
    private static void seeSheets(CoatRings x, List<String> all) {
        for (int s = 0; s < 4; s++) {
            for (int lane = 0; lane < 3; lane++) {
                int got = 0;
                for (int i = 0; i < 25 && got != INDEX && got != NULL && got != CAST; i++) {
                    got = note(all, "table(" + s + ", " + lane + ", " + i + ")", x.table(s, lane, i));
                    for (int p = 0; p < x.count(0) && got >= 0; p++) note(all, "told(" + p + ", 3)", x.told(p, 3));
                }
            }
            note(all, "drop(" + s + ")", x.drop(s));
        }
    }
}
