import java.util.ArrayList;
import java.util.Arrays;
import java.util.Collections;
import java.util.HashMap;
import java.util.HashSet;
import java.util.List;
import java.util.Map;
import java.util.PriorityQueue;
import java.util.Set;
import java.util.TreeSet;

/** The document done once more, as slowly and literally as can be, to be held against CoatRings. */
final class SlowCoats {
    static final int BAD = -1, NOT = -2, FULL = -3, NONE = -4, NULL = -11, CAST = -12, INDEX = -13, SIZE = -14;

    /** What an image keeps. */
    static final class Night {
        List<int[]> homes = new ArrayList<>();
        List<Integer> marks = new ArrayList<>();
        List<Integer> has = new ArrayList<>();
        Map<List<Integer>, Integer> likes = new HashMap<>();
        Set<Integer> wont = new TreeSet<>();
        List<int[]> inns = new ArrayList<>();
        int rate = 2, seats = 3, done = 0, miles = 0;
        List<int[]> fears = new ArrayList<>();
        /** Pairs of a person and a coat that are ruled out. */
        Set<List<Integer>> ruledOut = new HashSet<>();

        Night same() {
            Night n = new Night();
            n.homes.addAll(homes);
            n.marks.addAll(marks);
            n.has.addAll(has);
            n.likes.putAll(likes);
            n.wont.addAll(wont);
            n.inns.addAll(inns);
            n.rate = rate;
            n.seats = seats;
            n.done = done;
            n.miles = miles;
            n.fears.addAll(fears);
            n.ruledOut.addAll(ruledOut);
            return n;
        }
    }

    private Night s = new Night();
    private Night image = null;
    private String tape = "";
    private final Object[] sheets = new Object[4];

    private int n() {
        return s.homes.size();
    }

    private boolean no(int p) {
        return p < 0 || p >= n();
    }

    private static int far(int[] a, int[] b) {
        return Math.abs(a[0] - b[0]) + Math.abs(a[1] - b[1]);
    }

    private int far(int p, int q) {
        return far(s.homes.get(p), s.homes.get(q));
    }

    private static boolean in(int v, int low, int high) {
        return low <= v && v <= high;
    }

    // 1

    int person(int x, int y, int marks) {
        if (!in(x, 0, 19) || !in(y, 0, 19) || !in(marks, 0, 63)) return BAD;
        if (n() == 6) return FULL;
        s.homes.add(new int[] {x, y});
        s.marks.add(marks);
        s.has.add(n() - 1);
        return n() - 1;
    }

    private static List<Integer> ringOf(List<Integer> has, int p) {
        List<Integer> ring = new ArrayList<>();
        for (int q = p; !ring.contains(q); q = has.get(q)) ring.add(q);
        return ring;
    }

    int told(int p, int what) {
        if (no(p)) return BAD;
        switch (what) {
            case 0: return s.homes.get(p)[0];
            case 1: return s.homes.get(p)[1];
            case 2: return s.marks.get(p);
            case 3: return s.has.get(p);
            case 4: return s.has.indexOf(p);
            case 5: return s.wont.contains(p) ? 1 : 0;
            case 6: return Collections.min(ringOf(s.has, p));
            case 7: return ringOf(s.has, p).size();
            default: return BAD;
        }
    }

    int marks(int c, int v) {
        return no(c) || !in(v, 0, 63) ? BAD : s.marks.set(c, v);
    }

    private int liking(int p, int c) {
        return s.likes.getOrDefault(List.of(p, c), 5);
    }

    int likes(int p, int c, int v) {
        if (no(p) || no(c) || !in(v, 0, 9)) return BAD;
        int before = liking(p, c);
        s.likes.put(List.of(p, c), v);
        return before;
    }

    int wont(int p, boolean is) {
        if (no(p)) return BAD;
        int before = s.wont.contains(p) ? 1 : 0;
        if (is) s.wont.add(p); else s.wont.remove(p);
        return before;
    }

    /** The machine's own way: what it throws is what is answered. */
    private int items(int sheet, int lane, int i, List<Integer> into) {
        if (!in(sheet, 0, 3) || !in(lane, 0, 2)) return BAD;
        try {
            Object o = sheets[sheet];
            o.getClass();
            int[] all = new int[n()];
            if (lane == 0) {
                byte[] row = (byte[]) o;
                Arrays.copyOfRange(row, i, Math.min(i, row.length));
                for (int k = 0; k < all.length; k++) into.add((int) row[i + k]);
            } else if (lane == 1) {
                short[] row = (short[]) o;
                Arrays.copyOfRange(row, i, Math.min(i, row.length));
                for (int k = 0; k < all.length; k++) into.add((int) row[i + k]);
            } else {
                int[] row = (int[]) o;
                Arrays.copyOfRange(row, i, Math.min(i, row.length));
                for (int k = 0; k < all.length; k++) into.add(row[i + k]);
            }
        } catch (NullPointerException e) {
            return NULL;
        } catch (ClassCastException e) {
            return CAST;
        } catch (IndexOutOfBoundsException | IllegalArgumentException e) {
            return INDEX;
        }
        return new TreeSet<>(into).equals(new TreeSet<>(own())) ? 0 : NOT;
    }

    private List<Integer> own() {
        List<Integer> own = new ArrayList<>();
        for (int p = 0; p < n(); p++) own.add(p);
        return own;
    }

    int table(int sheet, int lane, int i) {
        List<Integer> row = new ArrayList<>();
        int fault = items(sheet, lane, i, row);
        if (fault < 0) return fault;
        s.has = row;
        return count(1);
    }

    int inn(int x, int y) {
        if (!in(x, 0, 19) || !in(y, 0, 19)) return BAD;
        if (s.inns.size() == 4) return FULL;
        s.inns.add(new int[] {x, y});
        return s.inns.size() - 1;
    }

    int set(int what, int v) {
        int before = what == 0 ? s.rate : s.seats;
        if (what == 0 && in(v, 1, 9)) s.rate = v;
        else if (what == 1 && in(v, 2, 4)) s.seats = v;
        else return BAD;
        return before;
    }

    int count(int what) {
        Set<Set<Integer>> rings = new HashSet<>();
        int astray = 0, greatest = 0, many = 0;
        for (int p = 0; p < n(); p++) {
            rings.add(new TreeSet<>(ringOf(s.has, p)));
            if (s.has.get(p) != p) astray++;
        }
        for (Set<Integer> ring : rings) {
            greatest = Math.max(greatest, ring.size());
            if (ring.size() >= 2) many++;
        }
        int[] all = {n(), astray, many, greatest, s.inns.size(), s.done, s.miles, s.fears.size()};
        return in(what, 0, 7) ? all[what] : BAD;
    }

    // 2

    /** Who is in a meeting, and whether there is such a one (empty: no). */
    private Set<Integer> there(List<Integer> has, int number) {
        Set<Integer> set = new TreeSet<>();
        int rest = number % 10000;
        if (in(number, 0, 9999)) {
            int a = rest / 100, b = rest % 100;
            if (a < b && b < n()) set.addAll(List.of(a, b));
        } else if (in(number, 10000, 19999)) {
            int inn = rest / 1000, bits = rest % 1000;
            for (int p = 0; p < 10; p++) if ((bits >> p & 1) == 1) set.add(p);
            boolean ok = inn < s.inns.size() && set.size() >= 2 && set.size() <= s.seats;
            for (int p : set) ok &= p < n();
            if (!ok) set.clear();
        } else if (in(number, 20000, 29999) && rest < n()) {
            List<Integer> ring = ringOf(has, rest);
            if (ring.size() >= 2 && Collections.min(ring) == rest) set.addAll(ring);
        }
        return set;
    }

    private int milesOf(List<Integer> has, int number, Set<Integer> there) {
        int sum = 0;
        if (number < 10000) return 2 * far(number / 100, number % 100);
        if (number < 20000) {
            for (int p : there) sum += 2 * far(s.inns.get(number % 10000 / 1000), s.homes.get(p));
            return sum;
        }
        for (int p : there) sum += s.rate * far(p, has.get(p));
        return sum;
    }

    private List<Integer> after(List<Integer> has, int number, Set<Integer> there) {
        List<Integer> then = new ArrayList<>(has);
        if (number < 10000) {
            Collections.swap(then, number / 100, number % 100);
        } else if (number < 20000) {
            Set<Integer> coats = new TreeSet<>();
            for (int p : there) coats.add(has.get(p));
            List<Integer> others = new ArrayList<>();
            for (int p : there) {
                if (coats.remove(p)) then.set(p, p); else others.add(p);
            }
            List<Integer> left = new ArrayList<>(coats);
            for (int k = 0; k < others.size(); k++) then.set(others.get(k), left.get(k));
        } else {
            for (int p : there) then.set(p, p);
        }
        return then;
    }

    int meet(int number) {
        Set<Integer> there = there(s.has, number);
        if (there.isEmpty()) return BAD;
        if (!Collections.disjoint(there, s.wont)) return NOT;
        int miles = milesOf(s.has, number, there);
        s.has = after(s.has, number, there);
        s.done++;
        s.miles += miles;
        return miles;
    }

    private boolean isWell(List<Integer> has) {
        for (int p = 0; p < n(); p++) {
            boolean free = s.wont.contains(p) || s.wont.contains(has.indexOf(p));
            if (!free && has.get(p) != p) return false;
        }
        return true;
    }

    int well() {
        return isWell(s.has) ? 1 : 0;
    }

    int fewest() {
        Set<List<Integer>> seen = new HashSet<>(Set.of(s.has)), edge = Set.of(s.has);
        for (int steps = 0; ; steps++) {
            Set<List<Integer>> further = new HashSet<>();
            for (List<Integer> has : edge) {
                if (isWell(has)) return steps;
                for (int a = 0; a < n(); a++) {
                    for (int b = a + 1; b < n(); b++) {
                        if (s.wont.contains(a) || s.wont.contains(b)) continue;
                        List<Integer> then = new ArrayList<>(has);
                        Collections.swap(then, a, b);
                        if (seen.add(then)) further.add(then);
                    }
                }
            }
            edge = further;
        }
    }

    private record Way(int miles, List<Integer> numbers, List<Integer> has) implements Comparable<Way> {
        public int compareTo(Way o) {
            if (miles != o.miles) return Integer.compare(miles, o.miles);
            if (numbers.size() != o.numbers.size()) return Integer.compare(numbers.size(), o.numbers.size());
            for (int k = 0; k < numbers.size(); k++) {
                int by = Integer.compare(numbers.get(k), o.numbers.get(k));
                if (by != 0) return by;
            }
            return 0;
        }
    }

    private List<Integer> allNumbers() {
        List<Integer> all = new ArrayList<>();
        for (int a = 0; a < n(); a++) for (int b = a + 1; b < n(); b++) all.add(100 * a + b);
        for (int i = 0; i < s.inns.size(); i++) for (int set = 0; set < 64; set++) all.add(10000 + 1000 * i + set);
        for (int p = 0; p < n(); p++) all.add(20000 + p);
        return all;
    }

    private Way thePlan() {
        PriorityQueue<Way> queue = new PriorityQueue<>();
        Set<List<Integer>> seen = new HashSet<>();
        List<Integer> numbers = allNumbers();
        queue.add(new Way(0, List.of(), s.has));
        while (true) {
            Way way = queue.remove();
            if (isWell(way.has)) return way;
            if (!seen.add(way.has)) continue;
            for (int number : numbers) {
                Set<Integer> there = there(way.has, number);
                if (there.isEmpty() || !Collections.disjoint(there, s.wont)) continue;
                List<Integer> then = after(way.has, number, there);
                if (seen.contains(then)) continue;
                List<Integer> longer = new ArrayList<>(way.numbers);
                longer.add(number);
                queue.add(new Way(way.miles + milesOf(way.has, number, there), longer, then));
            }
        }
    }

    int plan(int i) {
        if (i < -2) return BAD;
        Way plan = thePlan();
        if (i == -1) return plan.miles;
        if (i == -2) return plan.numbers.size();
        return i < plan.numbers.size() ? plan.numbers.get(i) : NONE;
    }

    /** All days from a table on: each table that comes of one, with the least miles. */
    private void days(List<Integer> has, int p, int miles, Set<Integer> used, Map<List<Integer>, Integer> into) {
        if (p == n()) {
            into.merge(has, miles, Math::min);
            return;
        }
        days(has, p + 1, miles, used, into);
        if (used.contains(p) || s.wont.contains(p)) return;
        for (int q = p + 1; q < n(); q++) {
            if (used.contains(q) || s.wont.contains(q)) continue;
            List<Integer> then = new ArrayList<>(has);
            Collections.swap(then, p, q);
            Set<Integer> more = new HashSet<>(used);
            more.addAll(List.of(p, q));
            days(then, p + 1, miles + 2 * far(p, q), more, into);
        }
    }

    int atOnce(int what) {
        if (!in(what, 0, 1)) return BAD;
        Map<List<Integer>, Integer> tables = new HashMap<>();
        tables.put(s.has, 0);
        for (int day = 0; ; day++) {
            int least = Integer.MAX_VALUE;
            for (List<Integer> has : tables.keySet()) if (isWell(has)) least = Math.min(least, tables.get(has));
            if (least < Integer.MAX_VALUE) return what == 0 ? day : least;
            Map<List<Integer>, Integer> then = new HashMap<>();
            for (List<Integer> has : tables.keySet()) days(has, 0, tables.get(has), Set.of(), then);
            tables = then;
        }
    }

    // 3

    int type(long w, int n) {
        if (!in(n, 1, 8)) return BAD;
        StringBuilder signs = new StringBuilder();
        for (int k = n - 1; k >= 0; k--) {
            int b = (int) (w >>> 8 * k & 255);
            if (!in(b, 32, 126)) return BAD;
            signs.append((char) b);
        }
        if (tape.length() + n > 100) return FULL;
        tape += signs;
        return tape.length();
    }

    int facts() {
        String text = tape;
        tape = "";
        List<Integer> places = new ArrayList<>();
        for (int k = 0; k < text.length(); k++) if (text.charAt(k) != ' ') places.add(k);
        places.add(text.length());
        String people = "abcdef".substring(0, n());
        Set<List<Integer>> out = new HashSet<>(s.ruledOut);
        int one = 0;
        char sign = ' ';
        for (int k = 0; ; k++) {
            int place = places.get(k);
            boolean end = place == text.length();
            char c = end ? 0 : text.charAt(place);
            if (end && k % 4 == 3) break;
            String can = k % 4 == 0 ? people : k % 4 == 1 ? "=!+-" : k % 4 == 3 ? (k == 47 ? "" : ";")
                : sign == '=' || sign == '!' ? people : "123456";
            if (end || can.indexOf(c) < 0) return -20 - place;
            if (k % 4 == 0) one = c - 'a';
            if (k % 4 == 1) sign = c;
            if (k % 4 == 2) {
                for (int coat = 0; coat < n(); coat++) {
                    boolean is = sign == '=' || sign == '!' ? coat == c - 'a' : (s.marks.get(coat) >> (c - '1') & 1) == 1;
                    if (is != (sign == '=' || sign == '+')) out.add(List.of(one, coat));
                }
            }
        }
        s.ruledOut = out;
        return places.size() / 4;
    }

    int forget() {
        s.ruledOut.clear();
        return n();
    }

    private List<List<Integer>> rows(int size) {
        List<List<Integer>> all = new ArrayList<>();
        rows(size, new ArrayList<>(), all);
        return all;
    }

    private static void rows(int size, List<Integer> begun, List<List<Integer>> all) {
        if (begun.size() == size) all.add(new ArrayList<>(begun));
        for (int v = 0; v < size; v++) {
            if (begun.contains(v)) continue;
            begun.add(v);
            rows(size, begun, all);
            begun.remove(begun.size() - 1);
        }
    }

    private List<List<Integer>> allWorlds() {
        List<List<Integer>> worlds = new ArrayList<>();
        for (List<Integer> row : rows(n())) {
            boolean ok = true;
            for (int p = 0; p < n(); p++) ok &= !s.ruledOut.contains(List.of(p, row.get(p)));
            if (ok) worlds.add(row);
        }
        return worlds;
    }

    int may(int p, int what) {
        if (no(p) || !in(what, 0, 1)) return BAD;
        int set = 0;
        if (what == 0) {
            for (int c = 0; c < n(); c++) if (!s.ruledOut.contains(List.of(p, c))) set |= 1 << c;
        } else {
            for (List<Integer> world : allWorlds()) set |= 1 << world.get(p);
        }
        return set;
    }

    int worlds() {
        return allWorlds().size();
    }

    int sure(int p) {
        if (no(p)) return BAD;
        Set<Integer> coats = new HashSet<>();
        for (List<Integer> world : allWorlds()) coats.add(world.get(p));
        return coats.size() == 1 ? coats.iterator().next() : NONE;
    }

    int next(int what) {
        if (!in(what, 0, 1)) return BAD;
        if (n() == 0) return NOT;
        List<List<Integer>> worlds = allWorlds();
        if (worlds.isEmpty()) return NONE;
        int who = -1, least = Integer.MAX_VALUE;
        for (int p = 0; p < n(); p++) {
            int[] left = new int[6];
            for (List<Integer> world : worlds) left[world.get(p)]++;
            int worst = Arrays.stream(left).max().getAsInt();
            if (worst < least) {
                least = worst;
                who = p;
            }
        }
        return what == 0 ? who : least;
    }

    // 4

    private static List<Integer> slipped(List<Integer> row, int kind, int i, int j) {
        List<Integer> then = new ArrayList<>(row);
        if (kind == 0) Collections.swap(then, i, j);
        if (kind == 1) then.add(i, then.remove(j));
        if (kind == 2) Collections.reverse(then.subList(i, j + 1));
        return then;
    }

    /** All tables of so few slips: the number of rows of slips, and the first of them. */
    private record Slid(int ways, List<Integer> first) { }

    private static boolean before(List<Integer> a, List<Integer> b) {
        for (int k = 0; k < a.size(); k++) {
            if (!a.get(k).equals(b.get(k))) return a.get(k) < b.get(k);
        }
        return false;
    }

    int explained(int kinds, int what) {
        if (!in(kinds, 1, 7) || what < -2) return BAD;
        if (n() == 0) return NOT;
        Map<List<Integer>, Slid> now = new HashMap<>();
        now.put(own(), new Slid(1, List.of()));
        Set<List<Integer>> seen = new HashSet<>(now.keySet());
        for (int steps = 0; ; steps++) {
            Slid here = now.get(s.has);
            if (here != null) {
                if (what == -1) return steps;
                if (what == -2) return here.ways;
                return what < steps ? here.first.get(what) : NONE;
            }
            Map<List<Integer>, Slid> then = new HashMap<>();
            for (List<Integer> row : now.keySet()) {
                for (int number = 0; number < 108; number++) {
                    int kind = number / 36, i = number / 6 % 6, j = number % 6;
                    if ((kinds >> kind & 1) == 0 || i >= j || j >= n()) continue;
                    List<Integer> next = slipped(row, kind, i, j);
                    if (seen.contains(next)) continue;
                    List<Integer> first = new ArrayList<>(now.get(row).first);
                    first.add(number);
                    Slid other = then.get(next);
                    int ways = now.get(row).ways + (other == null ? 0 : other.ways);
                    then.put(next, new Slid(ways, other == null || before(first, other.first) ? first : other.first));
                }
            }
            seen.addAll(then.keySet());
            now = then;
        }
    }

    int fear(int kind, int i, int j) {
        if (!in(kind, 0, 2) || no(i) || no(j) || i >= j) return BAD;
        if (s.fears.size() == 6) return FULL;
        s.fears.add(new int[] {kind, i, j});
        return s.fears.size() - 1;
    }

    private int harmOf(int[] slip, List<Integer> order) {
        List<Integer> hung = slipped(order, slip[0], slip[1], slip[2]);
        int sum = 0;
        for (int k = 0; k < n(); k++) sum += far(order.get(k), hung.get(k));
        return sum;
    }

    int harm(int slip, int sheet, int lane, int i) {
        if (!in(slip, 0, s.fears.size() - 1)) return BAD;
        List<Integer> order = new ArrayList<>();
        int fault = items(sheet, lane, i, order);
        return fault < 0 ? fault : harmOf(s.fears.get(slip), order);
    }

    int best(int k) {
        if (k < -2 || k >= n()) return BAD;
        if (n() == 0 || s.fears.isEmpty()) return NOT;
        int greatest = Integer.MAX_VALUE, least = 0;
        List<Integer> best = null;
        for (List<Integer> order : rows(n())) {
            int worst = 0, sum = 0;
            for (int[] slip : s.fears) {
                worst = Math.max(worst, harmOf(slip, order));
                sum += harmOf(slip, order);
            }
            if (worst < greatest || worst == greatest && sum < least) {
                greatest = worst;
                least = sum;
                best = order;
            }
        }
        return k == -1 ? greatest : k == -2 ? least : best.get(k);
    }

    // 5

    int trade(int person) {
        if (no(person)) return BAD;
        Set<Integer> still = new TreeSet<>(own());
        still.removeAll(s.wont);
        Map<Integer, Integer> gets = new HashMap<>();
        for (int p : s.wont) gets.put(p, s.has.get(p));
        while (!still.isEmpty()) {
            Map<Integer, Integer> wants = new HashMap<>();
            for (int p : still) {
                for (int c = 0; c < n(); c++) {
                    if (!still.contains(s.has.indexOf(c))) continue;
                    if (!wants.containsKey(p) || liking(p, c) > liking(p, wants.get(p))) wants.put(p, c);
                }
            }
            // One ring at a time is enough: those of the others stay as they are.
            List<Integer> way = new ArrayList<>();
            int p = still.iterator().next();
            while (!way.contains(p)) {
                way.add(p);
                p = s.has.indexOf(wants.get(p));
            }
            for (int q : way.subList(way.indexOf(p), way.size())) {
                gets.put(q, wants.get(q));
                still.remove(q);
            }
        }
        return gets.get(person);
    }

    int blocks(int sheet, int lane, int i) {
        List<Integer> told = new ArrayList<>();
        int fault = items(sheet, lane, i, told);
        if (fault < 0) return fault;
        for (int set = 1; set < 1 << n(); set++) {
            List<Integer> members = new ArrayList<>();
            for (int p = 0; p < n(); p++) if ((set >> p & 1) == 1) members.add(p);
            if (!Collections.disjoint(members, s.wont)) continue;
            for (List<Integer> way : rows(members.size())) {
                boolean ok = true;
                for (int k = 0; k < members.size(); k++) {
                    int p = members.get(k);
                    ok &= liking(p, s.has.get(members.get(way.get(k)))) > liking(p, told.get(p));
                }
                if (ok) return set;
            }
        }
        return NONE;
    }

    int image() {
        image = s.same();
        return 1;
    }

    int restore() {
        if (image == null) return NONE;
        s = image.same();
        return 1;
    }

    // 6

    int sheet(int sheet, int lane, int n) {
        if (!in(sheet, 0, 3) || !in(lane, 0, 2) || n > 24) return BAD;
        if (n < 0) return SIZE;
        sheets[sheet] = lane == 0 ? new byte[n] : lane == 1 ? new short[n] : new int[n];
        return n;
    }

    int drop(int sheet) {
        if (!in(sheet, 0, 3)) return BAD;
        if (sheets[sheet] == null) return NULL;
        int n = java.lang.reflect.Array.getLength(sheets[sheet]);
        sheets[sheet] = null;
        return n;
    }

    int item(int sheet, int lane, int i, int v) {
        if (!in(sheet, 0, 3) || !in(lane, 0, 2)) return BAD;
        if (sheets[sheet] == null) return NULL;
        try {
            if (lane == 0) ((byte[]) sheets[sheet])[i] = (byte) v;
            if (lane == 1) ((short[]) sheets[sheet])[i] = (short) v;
            if (lane == 2) ((int[]) sheets[sheet])[i] = v;
            return 1;
        } catch (ClassCastException e) {
            return CAST;
        } catch (ArrayIndexOutOfBoundsException e) {
            return INDEX;
        }
    }

    int copy(int from, int i, int to, int j, int n) {
        if (!in(from, 0, 3) || !in(to, 0, 3)) return BAD;
        try {
            System.arraycopy(sheets[from], i, sheets[to], j, n);
            return n;
        } catch (NullPointerException e) {
            return NULL;
        } catch (ArrayStoreException e) {
            return CAST;
        } catch (IndexOutOfBoundsException e) {
            return INDEX;
        }
    }
}
