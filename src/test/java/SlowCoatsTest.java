import java.util.ArrayList;
import java.util.List;
import java.util.Random;

/** Long mixed runs of calls, each held against SlowCoats. Told seeds, so that each time is like the last. */
public final class SlowCoatsTest {
    /** Plans by which a heap that was broken on purpose was found out. */
    private static final int[] KNOWN_SEEDS = {1100213, 1100748, 1100946, 2100313, 2100958, 3100477};
    private static int wrong = 0;
    private final Random dice;
    private final CoatRings x = new CoatRings();
    private final SlowCoats y = new SlowCoats();
    private final int seed;
    private int calls = 0;
    /** How far apart homes are: small numbers make many ties. */
    private final int spread;
    private int people = 0;

    private SlowCoatsTest(int seed) {
        this.seed = seed;
        dice = new Random(seed);
        spread = new int[] {1, 2, 3, 6, 20}[dice.nextInt(5)];
    }

    private int due(String call, int got, int want) {
        calls++;
        if (got != want) {
            wrong++;
            System.out.println("seed " + seed + ", call " + calls + ": " + call + " answered " + got + ", due is " + want);
        }
        return want;
    }

    private int to(int n) {
        return dice.nextInt(n);
    }

    /** Mostly 0 .. n - 1, now and then outside. */
    private int near(int n) {
        int kind = to(40);
        if (kind == 0) return new int[] {Integer.MIN_VALUE, Integer.MAX_VALUE, -100, 100, 1 << 30}[to(5)];
        if (kind < 3) return n;
        if (kind < 5) return -1;
        return n <= 0 ? 0 : to(n);
    }

    private void person() {
        int a = near(spread), b = near(spread), m = near(64);
        int got = due("person(" + a + ", " + b + ", " + m + ")", x.person(a, b, m), y.person(a, b, m));
        if (got >= 0) people = got + 1;
    }

    private void inn() {
        int a = near(spread), b = near(spread);
        due("inn(" + a + ", " + b + ")", x.inn(a, b), y.inn(a, b));
    }

    private void row(int sheet, int lane, int at, int size) {
        due("sheet", x.sheet(sheet, lane, size), y.sheet(sheet, lane, size));
        List<Integer> all = new ArrayList<>();
        for (int p = 0; p < people; p++) all.add(p);
        java.util.Collections.shuffle(all, dice);
        for (int k = 0; k < people; k++) {
            int v = all.get(k) + (to(6) == 0 ? lane == 0 ? 256 : lane == 1 ? 65536 : 0 : 0) + (to(60) == 0 ? to(3) - 1 : 0);
            due("item", x.item(sheet, lane, at + k, v), y.item(sheet, lane, at + k, v));
        }
    }

    private void someRow() {
        int sheet = to(4), lane = to(3), at = to(4);
        row(sheet, lane, at, Math.min(24, at + people + to(3)));
        int usedLane = to(20) == 0 ? near(3) : lane, usedAt = to(15) == 0 ? near(24) : at, usedSheet = to(20) == 0 ? near(4) : sheet;
        String args = "(" + usedSheet + ", " + usedLane + ", " + usedAt + ")";
        int which = to(4);
        if (which < 2) due("table" + args, x.table(usedSheet, usedLane, usedAt), y.table(usedSheet, usedLane, usedAt));
        if (which == 2) due("blocks" + args, x.blocks(usedSheet, usedLane, usedAt), y.blocks(usedSheet, usedLane, usedAt));
        if (which == 3) {
            int slip = near(3);
            due("harm " + slip + args, x.harm(slip, usedSheet, usedLane, usedAt), y.harm(slip, usedSheet, usedLane, usedAt));
        }
    }

    private void typed(String text) {
        for (int at = 0; at < text.length(); at += 8) {
            String part = text.substring(at, Math.min(text.length(), at + 8));
            long w = dice.nextLong();
            for (char c : part.toCharArray()) w = w << 8 | c;
            due("type '" + part + "'", x.type(w, part.length()), y.type(w, part.length()));
        }
        due("facts of '" + text + "'", x.facts(), y.facts());
    }

    private String text() {
        StringBuilder text = new StringBuilder();
        int clauses = to(8) == 0 ? 11 + to(3) : 1 + to(3);
        for (int k = 0; k < clauses; k++) {
            if (k > 0) text.append(';');
            text.append((char) ('a' + to(Math.max(1, people))));
            char sign = "=!!+-!".charAt(to(6));
            text.append(sign);
            text.append(sign == '=' || sign == '!' ? (char) ('a' + to(Math.max(1, people))) : (char) ('1' + to(6)));
        }
        for (int k = to(4); k > 0; k--) text.insert(to(text.length() + 1), ' ');
        if (to(4) == 0) text.setCharAt(to(text.length()), (char) (32 + to(95)));
        if (to(8) == 0) text.deleteCharAt(to(text.length()));
        return text.toString();
    }

    private void meeting() {
        int number = to(4) == 0 ? near(30010) : to(3) == 0 ? 100 * near(people) + near(people)
            : to(2) == 0 ? 10000 + 1000 * to(4) + to(64) : 20000 + near(people);
        due("meet(" + number + ")", x.meet(number), y.meet(number));
    }

    private void small() {
        int a = near(people), b = near(people), v = near(10), w = near(8);
        boolean is = to(3) == 0;
        switch (to(10)) {
            case 0: due("told", x.told(a, w), y.told(a, w)); break;
            case 1: { int m = near(64); due("marks", x.marks(a, m), y.marks(a, m)); break; }
            case 2: case 3: case 4: due("likes", x.likes(a, b, v), y.likes(a, b, v)); break;
            case 5: due("wont(" + a + ", " + is + ")", x.wont(a, is), y.wont(a, is)); break;
            case 6: inn(); break;
            case 7: { int s = near(2); due("set(" + s + ", " + v + ")", x.set(s, v), y.set(s, v)); break; }
            case 8: due("count(" + w + ")", x.count(w), y.count(w)); break;
            default: { int k = near(3); due("fear(" + k + ", " + a + ", " + b + ")", x.fear(k, a, b), y.fear(k, a, b)); break; }
        }
    }

    private void sheets() {
        int s = near(4), t = near(4), lane = near(3), i = near(10), j = near(10), n = near(10), v = dice.nextInt();
        switch (to(5)) {
            case 0: due("sheet", x.sheet(s, lane, n), y.sheet(s, lane, n)); break;
            case 1: due("drop", x.drop(s), y.drop(s)); break;
            case 2: due("item", x.item(s, lane, i, v), y.item(s, lane, i, v)); break;
            default: due("copy(" + s + ", " + i + ", " + t + ", " + j + ", " + n + ")", x.copy(s, i, t, j, n), y.copy(s, i, t, j, n)); break;
        }
    }

    private void read() {
        int p = near(people), w = near(2), i = near(4) - to(3);
        switch (to(11)) {
            case 0: due("well()", x.well(), y.well()); break;
            case 1: due("fewest()", x.fewest(), y.fewest()); break;
            case 2: due("plan(" + i + ")", x.plan(i), y.plan(i)); break;
            case 3: due("atOnce(" + w + ")", x.atOnce(w), y.atOnce(w)); break;
            case 4: due("may(" + p + ", " + w + ")", x.may(p, w), y.may(p, w)); break;
            case 5: due("worlds()", x.worlds(), y.worlds()); break;
            case 6: due("sure(" + p + ")", x.sure(p), y.sure(p)); break;
            case 7: due("next(" + w + ")", x.next(w), y.next(w)); break;
            case 8: { int k = 1 + near(7); due("explained(" + k + ", " + i + ")", x.explained(k, i), y.explained(k, i)); break; }
            case 9: { int k = near(people) - to(3); due("best(" + k + ")", x.best(k), y.best(k)); break; }
            default: due("trade(" + p + ")", x.trade(p), y.trade(p)); break;
        }
    }

    private void run() {
        for (int k = to(8); k > 0; k--) person();
        while (calls < 400) {
            switch (to(12)) {
                case 0: if (to(6) == 0) person(); break;
                case 1: someRow(); break;
                case 2: if (to(3) == 0) typed(text()); break;
                case 3: meeting(); break;
                case 4: case 5: small(); break;
                case 6: sheets(); break;
                case 7:
                    if (to(8) == 0) due("image()", x.image(), y.image());
                    if (to(12) == 0) {
                        due("restore()", x.restore(), y.restore());
                        people = Math.max(0, x.count(0));
                    }
                    if (to(12) == 0) due("forget()", x.forget(), y.forget());
                    break;
                default: read(); break;
            }
        }
    }

    /** All of a plan, which the mixed runs ask for only in parts. */
    private void plans() {
        for (int k = 1 + to(6); k > 0; k--) person();
        for (int k = to(4); k > 0; k--) inn();
        int seats = 2 + to(3), rate = 1 + to(3);
        due("set", x.set(1, seats), y.set(1, seats));
        due("set", x.set(0, rate), y.set(0, rate));
        row(0, 0, 0, people);
        due("table", x.table(0, 0, 0), y.table(0, 0, 0));
        for (int k = people == 0 ? 0 : to(5) - 2; k > 0; k--) {
            int p = to(people);
            due("wont(" + p + ")", x.wont(p, true), y.wont(p, true));
        }
        int many = due("plan(-2)", x.plan(-2), y.plan(-2));
        for (int i = -1; i <= many; i++) due("plan(" + i + ")", x.plan(i), y.plan(i));
        due("fewest()", x.fewest(), y.fewest());
        due("atOnce(0)", x.atOnce(0), y.atOnce(0));
        due("atOnce(1)", x.atOnce(1), y.atOnce(1));
        due("well()", x.well(), y.well());
    }

    /** A rail of six whose best order is the last of all. */
    private void lastOrder() {
        int[][] homes = {{17, 13}, {17, 16}, {10, 15}, {9, 16}, {1, 14}, {13, 0}};
        int[][] fears = {{2, 3, 4}, {1, 4, 5}, {0, 2, 4}, {2, 1, 3}, {1, 3, 5}, {1, 2, 3}};
        for (int[] h : homes) due("person", x.person(h[0], h[1], 0), y.person(h[0], h[1], 0));
        for (int[] f : fears) due("fear", x.fear(f[0], f[1], f[2]), y.fear(f[0], f[1], f[2]));
        for (int k = -2; k < 6; k++) due("best(" + k + ")", x.best(k), y.best(k));
    }

    public static void main(String[] args) {
        for (int seed : KNOWN_SEEDS) new SlowCoatsTest(seed).plans();
        new SlowCoatsTest(0).lastOrder();
        int runs = args.length > 0 ? Integer.parseInt(args[0]) : 40;
        int from = args.length > 1 ? Integer.parseInt(args[1]) : 0;
        for (int seed = from; seed < from + runs; seed++) {
            new SlowCoatsTest(seed).run();
            for (int k = 1; k <= 4; k++) new SlowCoatsTest(seed + 1000000 * k).plans();
        }
        System.out.println(wrong == 0 ? "all answers are as due" : wrong + " answers are not as due");
        if (wrong != 0) System.exit(1);
    }
}
