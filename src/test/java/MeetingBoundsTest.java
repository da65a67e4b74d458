import java.util.Set;
import java.util.TreeSet;

/** The boundary cases that the document names of meetings: promises 11 to 15. */
public final class MeetingBoundsTest extends Calls {
    static void all() {
        far();
        pair();
        inn();
        post();
        numbers();
        wont();
        well();
        fewest();
        plan();
        ties();
        changes();
        atOnce();
    }

    private static void far() {
        says(0, "FAR from one place to another is how much their x differ and how much their y, together.");
        int[][] at = {{0, 0, 0, 0, 0}, {0, 0, 19, 19, 38}, {19, 19, 0, 0, 38}, {0, 19, 19, 0, 38}, {19, 0, 0, 19, 38}, {3, 5, 4, 5, 1},
            {3, 5, 2, 5, 1}, {3, 5, 3, 6, 1}, {3, 5, 3, 4, 1}, {2, 9, 7, 3, 11}};
        for (int[] a : at) {
            CoatRings x = with(homes(a[0], a[1], a[2], a[3]), 1, 0);
            x.inn(a[2], a[3]);
            due("between homes, twice", x.meet(1), 2 * a[4]);
            due("to an inn, twice", x.meet(10003), 2 * a[4]);
            with(x, 1, 0);
            due("by post, both ways", x.meet(20000), 2 * 2 * a[4]);
        }
    }

    private static void pair() {
        says(0, "MEETINGS are of KINDS: 0 PAIR (two change what they have): its MILES are twice FAR between their HOMES;");
        CoatRings x = with(homes(0, 0, 4, 0, 19, 19, 0, 1, 0, 2, 19, 18), 1, 2, 3, 4, 5, 0);
        due("the first two", x.meet(1), 8);
        has(x, 2, 1, 3, 4, 5, 0);
        due("the last two", x.meet(405), 2 * (19 + 16));
        has(x, 2, 1, 3, 4, 0, 5);
        due("the first and the last", x.meet(5), 2 * (19 + 18));
        has(x, 5, 1, 3, 4, 0, 2);
        due("neither has his own then", x.meet(203), 2 * (19 + 18));
        has(x, 5, 1, 4, 3, 0, 2);
        CoatRings own = line(2, 3);
        due("two who have their own change, too", own.meet(1), 6);
        has(own, 1, 0);
    }

    private static void inn() {
        says(0, "1 at an INN (a set of two to SEATS PEOPLE):");
        for (int seats = 2; seats <= 4; seats++) {
            for (int set = 0; set < 64; set++) {
                CoatRings x = with(line(6, 1), 1, 2, 3, 4, 5, 0);
                x.set(1, seats);
                x.inn(0, 0);
                int size = Integer.bitCount(set), miles = 0;
                for (int p = 0; p < 6; p++) miles += (set >> p & 1) * 2 * p;
                due("SEATS " + seats + ", meet(" + (10000 + set) + ")", x.meet(10000 + set), size >= 2 && size <= seats ? miles : BAD);
            }
        }
        CoatRings two = line(2, 1);
        two.inn(0, 0);
        due("SEATS are more than people", two.meet(10003), 2);

        says(0, "each there whose COAT is there has it then,");
        settled(new int[] {1, 0, 2, 3, 4, 5}, 3, new int[] {0, 1, 2, 3, 4, 5});
        settled(new int[] {1, 2, 3, 0, 4, 5}, 15, new int[] {0, 1, 2, 3, 4, 5});
        settled(new int[] {5, 0, 1, 2, 3, 4}, 48, new int[] {5, 0, 1, 2, 4, 3});
        settled(new int[] {1, 0, 3, 2, 5, 4}, 3, new int[] {0, 1, 3, 2, 5, 4});
        settled(new int[] {0, 1, 2, 3, 4, 5}, 45, new int[] {0, 1, 2, 3, 4, 5});

        says(0, "what is left goes to others there, the least COAT to the least one, and so on;");
        settled(new int[] {3, 2, 0, 1, 4, 5}, 3, new int[] {2, 3, 0, 1, 4, 5});
        settled(new int[] {5, 4, 3, 2, 1, 0}, 7, new int[] {3, 4, 5, 2, 1, 0});
        settled(new int[] {5, 4, 3, 2, 1, 0}, 56, new int[] {5, 4, 3, 0, 1, 2});
        settled(new int[] {5, 0, 4, 1, 3, 2}, 15, new int[] {0, 1, 4, 5, 3, 2});
        settled(new int[] {1, 2, 3, 4, 5, 0}, 21, new int[] {1, 2, 3, 4, 5, 0});
        settled(new int[] {3, 2, 1, 4, 5, 0}, 21, new int[] {1, 2, 3, 4, 5, 0});

        says(0, "MILES twice FAR from the INN to HOMES of all there;");
        CoatRings x = homes(19, 19, 0, 0, 10, 10, 19, 0);
        x.inn(19, 19);
        x.inn(0, 0);
        x.set(1, 4);
        due("all of one place to an inn there, and from afar", x.meet(10003), 2 * 38);
        due("the other inn", x.meet(11003), 2 * 38);
        due("three", x.meet(11006 + 8), 2 * (20 + 19));
        due("four", x.meet(10015), 2 * (38 + 18 + 19));
        CoatRings near = homes(7, 7, 7, 7);
        near.inn(7, 7);
        due("no miles", near.meet(10003), 0);
        due("a meeting all the same", near.count(5), 1);
    }

    private static void settled(int[] before, int set, int[] then) {
        CoatRings x = with(line(6, 1), before);
        x.set(1, 4);
        x.inn(0, 0);
        due("meet(" + (10000 + set) + ") is one", x.meet(10000 + set) >= 0 ? 1 : 0, 1);
        has(x, then);
    }

    private static void post() {
        says(0, "2 POST: all of a RING (told by its least PERSON) of two or more send what they have to its owner, and have their own: "
            + "MILES RATE times FAR from each to him whose COAT he has.");
        CoatRings x = with(homes(0, 0, 19, 19, 1, 0, 0, 3, 5, 5, 19, 0), 5, 3, 4, 1, 2, 0);
        due("a ring of two", x.meet(20000), 2 * (19 + 19));
        has(x, 0, 3, 4, 1, 2, 5);
        x.set(0, 9);
        due("RATE 9", x.meet(20001), 9 * 2 * (19 + 16));
        x.set(0, 1);
        due("RATE 1", x.meet(20002), 2 * (4 + 5));
        has(x, 0, 1, 2, 3, 4, 5);
        CoatRings all = with(line(6, 3), 1, 2, 3, 4, 5, 0);
        due("a ring of six", all.meet(20000), 2 * (5 * 3 + 15));
        has(all, 0, 1, 2, 3, 4, 5);
        CoatRings back = with(line(6, 3), 5, 0, 1, 2, 3, 4);
        due("the other way round", back.meet(20000), 2 * (5 * 3 + 15));
        CoatRings last = with(line(6, 3), 0, 1, 2, 3, 5, 4);
        due("the last two", last.meet(20004), 2 * (3 + 3));
        CoatRings y = with(homes(0, 0, 10, 0, 10, 10), 1, 2, 0);
        due("each way is counted", y.meet(20000), 2 * (10 + 10 + 20));

        says(11, "(also a POST that is not told by the least of a RING of two);");
        refused("a ring of two by its other one", z -> z.meet(20004), BAD);
        refused("a ring of three by its second", z -> z.meet(20001), BAD);
        refused("a ring of three by its third", z -> z.meet(20002), BAD);
        refused("nobody's ring", z -> z.meet(20005), BAD);
        for (int p = 0; p < 6; p++) {
            int one = p;
            refused(() -> line(6, 1), "one who has his own", z -> z.meet(20000 + one), BAD);
        }
    }

    /** Of three inns and five people with a ring of two from 1 on, and one of three from 0 on. */
    private static CoatRings five() {
        CoatRings x = with(line(5, 1), 2, 3, 4, 1, 0);
        for (int k = 0; k < 3; k++) x.inn(k, k);
        return x;
    }

    private static void numbers() {
        says(0, "Its NUMBER: 10000 KIND, and 100 one and other (the lesser first), 1000 INN and the set, or the one, together.");
        Set<Integer> are = new TreeSet<>();
        for (int a = 0; a < 5; a++) for (int b = a + 1; b < 5; b++) are.add(100 * a + b);
        for (int inn = 0; inn < 3; inn++) {
            for (int set = 0; set < 32; set++) {
                if (Integer.bitCount(set) == 2 || Integer.bitCount(set) == 3) are.add(10000 + 1000 * inn + set);
            }
        }
        are.add(20000);
        are.add(20001);
        for (int number : are) due("meet(" + number + ") is one", five().meet(number) >= 0 ? 1 : 0, 1);

        says(11, "A MEETING by its NUMBER is done: its MILES.");
        CoatRings done = five();
        due("a pair", done.meet(4), 8);
        due("at an inn", done.meet(12006), 2 * (3 + 2));
        due("by post", done.meet(20001), 2 * (2 + 2));
        due("three", done.count(5), 3);
        due("of so many miles", done.count(6), 8 + 10 + 8);

        says(11, "BAD: there is no such MEETING");
        CoatRings x = five();
        int calls = 0;
        for (int number = -1100; number <= 41000; number++) {
            if (are.contains(number)) continue;
            if (++calls % 400 == 0) {
                has(x, 2, 3, 4, 1, 0);
                due("none is done", x.count(5), 0);
                x = five();
            }
            due("meet(" + number + ")", x.meet(number), BAD);
        }
        for (int number : outside(0, 29999)) refused("meet(" + number + ")", y -> y.meet(number), BAD);
        for (int far : new int[] {1 << 16, 1 << 24, 1 << 30, MIN}) refused("meet(1 + " + far + ")", y -> y.meet(1 + far), BAD);
        refused("no inns", y -> y.meet(12003), BAD);
    }

    private static void wont() {
        says(0, "Nobody who WON'T is in a MEETING.");
        says(11, "NOT: one of them WON'T.");
        for (int who = 0; who < 5; who++) {
            int p = who;
            refused(() -> wont(five(), p), "a pair", x -> x.meet(p < 4 ? 100 * p + 4 : 4), NOT);
            refused(() -> wont(five(), p), "a pair", x -> x.meet(p > 0 ? p : 1), NOT);
            refused(() -> wont(five(), p), "at an inn", x -> x.meet(10000 + (1 << p) + (1 << (p + 1) % 5)), NOT);
            refused(() -> wont(five(), p), "by post", x -> x.meet(20000 + p % 2), NOT);
        }
        refused(() -> wont(five(), 0, 1, 2, 3, 4), "all of them", x -> x.meet(20000), NOT);
        CoatRings x = wont(five(), 0);
        due("a pair without him", x.meet(12), BAD);
        due("a pair without him", x.meet(102), 2);
        due("an inn without him", x.meet(10006), 6);
        CoatRings y = wont(five(), 0);
        due("another ring", y.meet(20001), 8);
        due("then he will", y.wont(0, false), 1);
        due("by post", y.meet(20000), 2 * (2 + 2 + 4));
    }

    private static void well() {
        says(0, "ALL IS WELL, if each has his own but those who WON'T, and those whose COAT one has who WON'T "
            + "(those who WON'T have what they have now).");
        says(12, "Whether ALL IS WELL (1, 0).");
        due("nobody", new CoatRings().well(), 1);
        due("one", line(1, 1).well(), 1);
        due("each his own", line(6, 1).well(), 1);
        due("the last two have not", with(line(6, 1), 0, 1, 2, 3, 5, 4).well(), 0);
        due("the first two have not", with(line(6, 1), 1, 0, 2, 3, 4, 5).well(), 0);
        due("of two one won't: the other can't", wont(with(line(2, 1), 1, 0), 0).well(), 1);
        due("of two both won't", wont(with(line(2, 1), 1, 0), 0, 1).well(), 1);
        due("another won't, who has his own", wont(with(line(3, 1), 1, 0, 2), 2).well(), 0);
        due("of three one won't: one could", wont(with(line(3, 1), 1, 2, 0), 0).well(), 0);
        due("of three two won't: the third can't", wont(with(line(3, 1), 1, 2, 0), 0, 1).well(), 1);
        due("of six all won't", wont(with(line(6, 1), 1, 2, 3, 4, 5, 0), 0, 1, 2, 3, 4, 5).well(), 1);
        due("of six every other one won't", wont(with(line(6, 1), 1, 2, 3, 4, 5, 0), 0, 2, 4).well(), 1);
        due("of six all but two next to each other", wont(with(line(6, 1), 1, 2, 3, 4, 5, 0), 0, 1, 2, 3).well(), 0);
        CoatRings x = wont(with(line(3, 1), 1, 2, 0), 0);
        due("1 is free, 2 has his own then", x.meet(102), 2);
        due("well", x.well(), 1);
        due("has what he has now: he will", x.wont(0, false), 1);
        due("not well", x.well(), 0);
    }

    private static void fewest() {
        says(0, "FEWEST: PAIRS till ALL IS WELL.");
        says(13, "FEWEST.");
        due("nobody", new CoatRings().fewest(), 0);
        due("each his own", line(6, 1).fewest(), 0);
        int[][] rings = {{1, 0, 2, 3, 4, 5}, {1, 2, 0, 3, 4, 5}, {1, 2, 3, 0, 4, 5}, {1, 2, 3, 4, 0, 5}, {1, 2, 3, 4, 5, 0}};
        for (int k = 0; k < 5; k++) due("a ring of " + (k + 2), with(line(6, 1), rings[k]).fewest(), k + 1);
        due("three rings", with(line(6, 1), 5, 4, 3, 2, 1, 0).fewest(), 3);
        due("two rings", with(line(6, 1), 1, 2, 0, 4, 5, 3).fewest(), 4);
        int[] left = {5, 4, 3, 2, 1, 0, 0};
        for (int k = 0; k <= 6; k++) {
            CoatRings x = with(line(6, 1), rings[4]);
            for (int p = 0; p < k; p++) x.wont(p, true);
            due("of six " + k + " won't", x.fewest(), left[k]);
        }
        due("every other one won't", wont(with(line(6, 1), rings[4]), 1, 3, 5).fewest(), 0);
        due("opposite ones won't", wont(with(line(6, 1), rings[4]), 0, 3).fewest(), 2);
        due("one who has his own won't", wont(with(line(6, 1), rings[0]), 5).fewest(), 1);
    }

    private static void plan() {
        says(0, "LEAST MILES: of any MEETINGS, till ALL IS WELL, the least sum of MILES,");
        says(14, "LEAST MILES (-1), or the NUMBER of MEETING i (0 ..) of THE PLAN; how many these are (-2).");
        planned(new CoatRings(), 0);
        planned(line(1, 1), 0);
        planned(line(6, 1), 0);
        planned(with(homes(0, 0, 19, 19), 1, 0), 76, 1);
        CoatRings x = with(line(2, 5), 1, 0);
        // A pair goes no farther than a post of RATE 1.
        x.set(0, 1);
        planned(x, 10, 1);
        x.set(0, 9);
        planned(x, 10, 1);
        // An inn that is not between two costs more than they do by themselves, one between them no less.
        x.inn(5, 1);
        planned(x, 10, 1);
        x.inn(3, 0);
        planned(x, 10, 1);
        planned(wont(with(line(2, 5), 1, 0), 1), 0);
        planned(wont(with(line(6, 1), 1, 2, 3, 4, 5, 0), 0, 1, 2, 3, 4, 5), 0);
        // Three round a crossing: each pair goes by it, so the inn there costs less than two pairs.
        CoatRings star = with(homes(5, 0, 0, 5, 5, 10), 1, 2, 0);
        planned(star, 40, 1, 2);
        star.inn(5, 5);
        planned(star, 30, 10007);
        star.set(1, 2);
        planned(star, 40, 1, 2);
        // By post each coat goes its own way.
        star.set(0, 1);
        planned(star, 30, 20000);
        star.set(1, 3);
        planned(star, 30, 10007);

        // The least miles count ahead of the fewest meetings: 104 and 305 would be two, of 8 miles.
        planned(wont(with(homes(1, 0, 1, 1, 0, 0, 1, 0, 0, 0, 0, 1), 1, 4, 5, 0, 2, 3), 0, 2), 6, 103, 405, 304);

        says(14, "BAD: also i below -2; NONE.");
        for (int i = -3; i > -40; i--) due("plan(" + i + ")", five().plan(i), BAD);
        refused("plan(-3)", y -> y.plan(-3), BAD);
        refused("plan(MIN)", y -> y.plan(MIN), BAD);
        refused("plan(MAX)", y -> y.plan(MAX), NONE);
        for (int k = 720; k < 1100; k += 7) due("far behind the last", five().plan(k), NONE);
    }

    private static void ties() {
        says(0, "of like ones the fewest MEETINGS,");
        planned(with(line(4, 0), 1, 2, 3, 0), 0, 20000);
        planned(with(line(3, 0), 1, 2, 0), 0, 20000);
        // One at the place of the other: no miles, one meeting.
        planned(with(homes(4, 4, 4, 4, 9, 9), 1, 0, 2), 0, 1);
        CoatRings x = with(line(3, 2), 1, 2, 0);
        planned(x, 8, 102, 1);
        x.inn(2, 0);
        // The inn at 1's home: 2 * (2 + 0 + 2), in one meeting.
        planned(x, 8, 10007);

        says(0, "of like ones the first by NUMBERS: THE PLAN.");
        // Two pairs, either may come first.
        planned(with(line(4, 1), 1, 0, 3, 2), 4, 1, 203);
        planned(with(line(4, 1), 2, 3, 0, 1), 8, 2, 103);
        // A pair at one place: by two (1), at either inn (10003, 11003), by post (20000).
        CoatRings y = with(homes(2, 2, 2, 2), 1, 0);
        y.inn(2, 2);
        y.inn(2, 2);
        planned(y, 0, 1);
        // Three at one place: at either inn, by post.
        CoatRings z = with(homes(2, 2, 2, 2, 2, 2), 1, 2, 0);
        planned(z, 0, 20000);
        z.inn(2, 2);
        z.inn(2, 2);
        planned(z, 0, 10007);
        // A set may be greater than what must meet: the first of them by number is due.
        CoatRings w = with(homes(2, 2, 2, 2, 2, 2, 2, 2), 0, 2, 3, 1);
        w.inn(2, 2);
        planned(w, 0, 10014);
        w.set(1, 4);
        planned(w, 0, 10014);
        // The last inn, and the post of another ring than the first.
        CoatRings v = with(homes(0, 0, 0, 0, 19, 19, 9, 4, 5, 9, 14, 9), 0, 1, 2, 4, 5, 3);
        for (int k = 0; k < 3; k++) v.inn(9, 18);
        v.inn(9, 9);
        planned(v, 28, 13056);
        v.set(1, 2);
        planned(v, 36, 405, 304);
        v.set(0, 1);
        planned(v, 28, 20003);
        // Three of like ways round a ring by two pairs, with one who won't left out.
        planned(wont(with(line(4, 0), 1, 2, 3, 0), 3), 0, 1, 2);
        // Two pairs and no more, though 0, who won't, and a post would come first by numbers.
        planned(wont(with(line(4, 0), 1, 3, 0, 2), 0), 0, 102, 203);
        // Three ways of like miles and meetings that part at the first meeting, and two at the last.
        planned(with(homes(0, 0, 0, 0, 1, 0, 1, 0), 2, 0, 3, 1), 2, 1, 103, 203);
        // Rings made one for a post, ahead of a post and a pair.
        planned(with(line(5, 0), 2, 0, 1, 4, 3), 0, 3, 20000);
        // A pair and then an inn, ahead of the inn and then the pair.
        CoatRings late = with(homes(0, 0, 0, 1, 1, 0, 1, 0), 1, 2, 3, 0);
        late.inn(0, 0);
        late.set(0, 3);
        late.set(1, 4);
        planned(late, 4, 203, 10007);
    }

    /** What the plan, days and the best order were reckoned from may change by any of these. */
    private static void changes() {
        says(0, "THE PLAN.");
        CoatRings x = with(homes(0, 0, 6, 0, 6, 8), 1, 2, 0);
        planned(x, 28, 102, 1);
        due("atOnce", x.atOnce(1), 28);
        x.wont(1, true);
        planned(x, 28, 2);
        due("atOnce", x.atOnce(0), 1);
        x.wont(1, false);
        planned(x, 28, 102, 1);
        x.set(0, 1);
        planned(x, 28, 20000);
        x.set(0, 2);
        planned(x, 28, 102, 1);
        x.inn(6, 0);
        planned(x, 28, 10007);
        x.set(1, 2);
        planned(x, 28, 102, 1);
        due("atOnce", x.atOnce(0), 2);
        x.image();
        x.meet(102);
        planned(x, 12, 1);
        due("atOnce", x.atOnce(0), 1);
        with(x, 2, 1, 0);
        planned(x, 28, 2);
        x.person(1, 1, 0);
        with(x, 0, 1, 3, 2);
        planned(x, 24, 203);
        due("atOnce", x.atOnce(1), 24);
        x.restore();
        planned(x, 28, 102, 1);
        due("atOnce", x.atOnce(0), 2);
    }

    private static void planned(CoatRings x, int miles, int... numbers) {
        due("plan(-1)", x.plan(-1), miles);
        due("plan(-2)", x.plan(-2), numbers.length);
        for (int k = 0; k < numbers.length; k++) due("plan(" + k + ")", x.plan(k), numbers[k]);
        due("behind the last", x.plan(numbers.length), NONE);
    }

    private static void atOnce() {
        says(0, "AT ONCE: on a DAY any PAIRS, each PERSON in one at most: the fewest DAYS till ALL IS WELL, with these the least MILES.");
        says(15, "AT ONCE: DAYS (0), MILES (1).");
        days(new CoatRings(), 0, 0);
        days(line(1, 1), 0, 0);
        days(line(6, 1), 0, 0);
        days(with(line(2, 1), 1, 0), 1, 2);
        days(with(line(6, 1), 1, 0, 3, 2, 5, 4), 1, 6);
        days(with(line(6, 1), 5, 4, 3, 2, 1, 0), 1, 2 * (5 + 3 + 1));
        days(with(line(3, 1), 1, 2, 0), 2, 4);
        // Rings of two in one day, of three in two: together two, where the ring of two needs no more miles.
        days(with(line(5, 1), 1, 2, 0, 4, 3), 2, 6);
        // A ring of six along a line turned over twice: the least is found among all ways.
        days(with(line(6, 0), 1, 2, 3, 4, 5, 0), 2, 0);
        // Fewest days go ahead of least miles: in three days 1 2 3 0 could come right with 6.
        days(with(line(4, 1), 1, 2, 3, 0), 2, 8);
        days(wont(with(line(2, 1), 1, 0), 0), 0, 0);
        days(wont(with(line(3, 1), 1, 2, 0), 0), 1, 2);
        days(wont(with(line(4, 1), 1, 2, 3, 0), 0), 2, 4);
        days(wont(with(line(3, 1), 1, 2, 0), 1), 1, 4);
        // By 0, who won't, it would be 8.
        days(wont(with(homes(1, 0, 1, 0, 0, 2, 2, 0, 0, 1), 2, 3, 4, 0, 1), 0), 2, 10);
        // By somebody who is not there it would be 3.
        days(wont(with(homes(1, 0, 1, 0, 0, 0, 1, 1), 1, 3, 0, 2), 1), 2, 4);
        // Only the last two on the first day.
        days(with(line(6, 1), 0, 1, 2, 4, 5, 3), 2, 4);
        days(wont(with(line(6, 1), 1, 2, 3, 4, 5, 0), 0, 1, 2, 3, 4, 5), 0, 0);

        says(15, "BAD.");
        for (int w : outside(0, 1)) refused("atOnce(" + w + ")", x -> x.atOnce(w), BAD);
    }

    private static void days(CoatRings x, int days, int miles) {
        due("atOnce(0)", x.atOnce(0), days);
        due("atOnce(1)", x.atOnce(1), miles);
    }

    public static void main(String[] args) {
        all();
        end();
    }
}
