/** The boundary cases that the document names of slips: promises 23 to 26. */
public final class SlipBoundsTest extends Calls {
    static void all() {
        kinds();
        explained();
        refusals();
        people();
        fear();
        harm();
        best();
        bestTies();
    }

    /** A row of n, each at his own place, behind one slip, as the document tells it. */
    private static int[] slipped(int n, int kind, int i, int j) {
        int[] row = new int[n];
        for (int k = 0; k < n; k++) row[k] = k;
        if (kind == 0) {
            row[i] = j;
            row[j] = i;
        }
        for (int k = i; k <= j; k++) {
            if (kind == 1) row[k] = k == i ? j : k - 1;
            if (kind == 2) row[k] = i + j - k;
        }
        return row;
    }

    private static void kinds() {
        says(0, "SLIPS are of KINDS, each of places i, j (i below j) of a row: 0 SWAP of both; 1 MOVED: what is at i .. j goes one place on, "
            + "the last to i; 2 TURNED: i .. j the other way round.");
        explain(with(line(6, 1), 5, 1, 2, 3, 4, 0), 1, 1, 5);
        explain(with(line(6, 1), 0, 4, 2, 3, 1, 5), 1, 1, 10);
        explain(with(line(6, 1), 5, 0, 1, 2, 3, 4), 2, 1, 41);
        explain(with(line(6, 1), 0, 4, 1, 2, 3, 5), 2, 1, 46);
        explain(with(line(6, 1), 5, 4, 3, 2, 1, 0), 4, 1, 77);
        explain(with(line(6, 1), 0, 4, 3, 2, 1, 5), 4, 1, 82);
        for (int kind = 0; kind < 3; kind++) {
            explain(with(line(6, 1), 1, 0, 2, 3, 4, 5), 1 << kind, 1, 36 * kind + 1);
            explain(with(line(6, 1), 0, 1, 2, 3, 5, 4), 1 << kind, 1, 36 * kind + 29);
            explain(with(line(2, 1), 1, 0), 1 << kind, 1, 36 * kind + 1);
        }

        says(0, "Its NUMBER: 36 KIND, 6 i and j, together.");
        for (int n = 2; n <= 6; n++) {
            for (int kind = 0; kind < 3; kind++) {
                for (int i = 0; i < n; i++) {
                    for (int j = i + 1; j < n; j++) {
                        explain(with(line(n, 1), slipped(n, kind, i, j)), 1 << kind, 1, 36 * kind + 6 * i + j);
                    }
                }
            }
        }
    }

    private static void explained() {
        says(0, "EXPLAINED is THE TABLE by SLIPS of told KINDS (bits 1, 2, 4) done one behind the other to a row where each has his own: "
            + "the fewest; how many rows of so few there are; THE FIRST of them by NUMBERS.");
        says(23, "EXPLAINED by KINDS (1 .. 7): the fewest SLIPS (what -1), how many rows of so few there are (-2), "
            + "NUMBER i (0 ..) of THE FIRST.");
        for (int kinds = 1; kinds <= 7; kinds++) {
            explain(line(1, 1), kinds, 1);
            explain(line(6, 1), kinds, 1);
            // Two that are next to each other: each kind does it in one.
            int first = (kinds & 1) != 0 ? 1 : (kinds & 2) != 0 ? 37 : 73;
            explain(with(line(2, 1), 1, 0), kinds, Integer.bitCount(kinds), first);
        }
        // All slips that there may be count, the last one, too.
        explain(with(line(6, 1), 0, 1, 2, 3, 5, 4), 7, 3, 29);
        // A swap of 0 and 2 is the same as turning 0 .. 2; by MOVED alone two are needed: 37 and 38, or 38 and 44.
        explain(with(line(3, 1), 2, 1, 0), 1, 1, 2);
        explain(with(line(3, 1), 2, 1, 0), 4, 1, 74);
        explain(with(line(3, 1), 2, 1, 0), 5, 2, 2);
        explain(with(line(3, 1), 2, 1, 0), 2, 2, 37, 38);
        explain(with(line(3, 1), 2, 1, 0), 7, 2, 2);
        // Rings of six by swaps: 6 to the power of 4 rows of five.
        explain(with(line(6, 1), 5, 0, 1, 2, 3, 4), 1, 1296, 1, 2, 3, 4, 5);
        explain(with(line(6, 1), 1, 2, 3, 4, 5, 0), 1, 1296, 1, 8, 15, 22, 29);
        // Three swaps that do not touch: any order.
        explain(with(line(6, 1), 1, 0, 3, 2, 5, 4), 1, 6, 1, 15, 29);
    }

    private static void explain(CoatRings x, int kinds, int rows, int... first) {
        due("explained(" + kinds + ", -1)", x.explained(kinds, -1), first.length);
        due("explained(" + kinds + ", -2)", x.explained(kinds, -2), rows);
        for (int k = 0; k < first.length; k++) due("explained(" + kinds + ", " + k + ")", x.explained(kinds, k), first[k]);
        due("behind the last", x.explained(kinds, first.length), NONE);
    }

    private static void refusals() {
        says(23, "BAD: also what below -2; NOT: nobody is there; NONE: by none, it has no such.");
        for (int kinds : outside(1, 7)) {
            for (int w = -2; w <= 0; w++) {
                int what = w;
                refused("explained(" + kinds + ", " + w + ")", x -> x.explained(kinds, what), BAD);
            }
        }
        for (int what : new int[] {-3, -4, -100, -65536, MIN, MIN + 1}) {
            for (int kinds = 1; kinds <= 7; kinds++) {
                int k = kinds;
                refused("explained(" + kinds + ", " + what + ")", x -> x.explained(k, what), BAD);
            }
        }
        for (int w = -2; w <= 1; w++) {
            int what = w;
            refused(CoatRings::new, "nobody", x -> x.explained(7, what), NOT);
        }
        for (int what : new int[] {3, 5, 6, 36, 45, 100, 720, 65536, 1 << 30, MAX}) {
            refused("explained(7, " + what + ")", x -> x.explained(7, what), NONE);
        }
        refused(() -> line(6, 1), "of none", x -> x.explained(1, 0), NONE);
    }

    /** What is known of slips is for so many people. */
    private static void people() {
        of("explained, when one more comes, or fewer are there again");
        CoatRings x = with(line(2, 1), 1, 0);
        explain(x, 2, 1, 37);
        x.image();
        due("one more", x.person(0, 0, 0), 2);
        explain(x, 2, 1, 37);
        with(x, 2, 0, 1);
        explain(x, 2, 1, 38);
        explain(x, 1, 3, 1, 2);
        due("one more", x.person(0, 0, 0), 3);
        with(x, 3, 0, 1, 2);
        explain(x, 2, 1, 39);
        x.restore();
        explain(x, 2, 1, 37);
        explain(x, 1, 1, 1);
        with(x, 0, 1);
        explain(x, 2, 1);
    }

    private static void fear() {
        says(0, "FEARED are SLIPS 0 .. 5, as they come.");
        says(24, "A SLIP is FEARED: its number in the row of these.");
        CoatRings x = line(6, 1);
        int[][] told = {{0, 0, 1}, {1, 0, 5}, {2, 4, 5}, {0, 4, 5}, {1, 2, 3}, {1, 2, 3}};
        for (int k = 0; k < 6; k++) {
            due("fear", x.fear(told[k][0], told[k][1], told[k][2]), k);
            due("feared", x.count(7), k + 1);
        }

        says(24, "BAD: also a place without a PERSON;");
        for (int kind : outside(0, 2)) refused("fear(" + kind + ", 0, 1)", y -> y.fear(kind, 0, 1), BAD);
        for (int place : outside(0, 4)) {
            refused("fear(0, 0, " + place + ")", y -> y.fear(0, 0, place), BAD);
            refused("fear(0, " + place + ", 4)", y -> y.fear(0, place, 4), BAD);
        }
        for (int i = 0; i < 5; i++) {
            for (int j = 0; j <= i; j++) {
                int a = i, b = j;
                refused("fear(1, " + i + ", " + j + ")", y -> y.fear(1, a, b), BAD);
            }
        }
        refused("fear(2, 5, 6)", y -> y.fear(2, 5, 6), BAD);
        refused("fear(2, MAX - 1, MAX)", y -> y.fear(2, MAX - 1, MAX), BAD);
        refused("fear(2, MIN, MAX)", y -> y.fear(2, MIN, MAX), BAD);
        refused(CoatRings::new, "nobody", y -> y.fear(0, 0, 1), BAD);
        refused(() -> line(1, 1), "one alone", y -> y.fear(0, 0, 1), BAD);
        for (int n = 2; n <= 6; n++) {
            int last = n - 1;
            due("the last place", line(n, 1).fear(0, last - 1, last), 0);
            refused(() -> line(last + 1, 1), "behind the last place", y -> y.fear(0, last, last + 1), BAD);
        }

        says(24, "FULL: 6.");
        due("a seventh", x.fear(0, 0, 1), FULL);
        refused(Calls::full, "a seventh", y -> y.fear(2, 0, 5), FULL);
        CoatRings z = night();
        for (int k = 2; k < 6; k++) due("fear", z.fear(0, 0, 1), k);
        due("a seventh", z.fear(0, 0, 1), FULL);
        z.restore();
        due("room again", z.fear(0, 0, 1), 1);
    }

    private static void harm() {
        says(0, "HUNG are COATS in an ORDER of PEOPLE along a rail: by a SLIP the one whose place is k has the COAT that hangs at k then.");
        says(0, "HARM of an ORDER by a SLIP is the sum of FAR from each to him whose COAT he has then.");
        // Homes at 0, 1, 3, 7, 15 along x, so that each sum tells who has whose.
        CoatRings x = homes(0, 0, 1, 0, 3, 0, 7, 0, 15, 0);
        int[][] slips = {{0, 0, 4}, {1, 0, 4}, {2, 0, 4}, {0, 3, 4}, {1, 1, 3}, {2, 1, 2}};
        for (int[] s : slips) x.fear(s[0], s[1], s[2]);
        lay(x, 0, 0, 0, 1, 2, 3, 4);
        lay(x, 1, 1, 4, 2, 0, 1, 3);
        lay(x, 2, 2, 9, 9, 3, 1, 4, 0, 2, 9);
        int[] own = {2 * 15, 15 + 1 + 2 + 4 + 8, 2 * 15 + 2 * 6, 2 * 8, 6 + 2 + 4, 2 * 2};
        int[] other = {2 * 8, 8 + 12 + 3 + 1 + 6, 2 * 8 + 2 * 2, 2 * 6, 2 + 3 + 1, 2 * 3};
        int[] third = {2 * 4, 4 + 6 + 14 + 15 + 3, 2 * 4 + 2 * 1, 2 * 3, 1 + 14 + 15, 2 * 14};
        says(25, "HARM of an ORDER (items of a SHEET, taken as a row of a LANE, from item i on) by a FEARED SLIP.");
        for (int s = 0; s < 6; s++) {
            due("harm(" + s + ", 0, 0, 0)", x.harm(s, 0, 0, 0), own[s]);
            due("harm(" + s + ", 1, 1, 0)", x.harm(s, 1, 1, 0), other[s]);
            due("harm(" + s + ", 2, 2, 2)", x.harm(s, 2, 2, 2), third[s]);
        }
        with(x, 4, 3, 2, 1, 0);
        wont(x, 0, 1, 2);
        due("the table and who won't do not matter", x.harm(1, 0, 0, 0), own[1]);
        CoatRings same = homes(5, 5, 5, 5);
        same.fear(0, 0, 1);
        lay(same, 0, 0, 1, 0);
        due("all at one place", same.harm(0, 0, 0, 0), 0);
        CoatRings corners = homes(0, 0, 19, 19, 0, 19, 19, 0, 0, 0, 19, 19);
        corners.fear(2, 0, 5);
        lay(corners, 0, 0, 0, 2, 4, 5, 3, 1);
        due("the most", corners.harm(0, 0, 0, 0), 6 * 38);

        says(25, "BAD; NULL; CAST; INDEX; NOT: that is no ORDER.");
        for (int s : outside(0, 1)) refused("harm(" + s + ", 0, 0, 1)", y -> y.harm(s, 0, 0, 1), BAD);
        for (int s : outside(0, 5)) due("of six", x.harm(s, 0, 0, 0), BAD);
        for (int s : outside(0, 3)) refused("harm(0, " + s + ", 0, 1)", y -> y.harm(0, s, 0, 1), BAD);
        for (int lane : outside(0, 2)) refused("harm(0, 0, " + lane + ", 1)", y -> y.harm(0, 0, lane, 1), BAD);
        refused(() -> line(2, 1), "nothing is feared", y -> y.harm(0, 0, 0, 0), BAD);
        for (int lane = 0; lane < 3; lane++) {
            int l = lane;
            refused("a sheet that holds nothing", y -> y.harm(0, 3, l, 0), NULL);
            refused("another lane", y -> y.harm(0, (l + 1) % 3, l, 0), CAST);
            refused("another lane", y -> y.harm(0, (l + 2) % 3, l, 0), CAST);
        }
        for (int i : outside(0, 2)) refused("harm(0, 0, 0, " + i + ")", y -> y.harm(0, 0, 0, i), INDEX);
        for (int i : outside(0, 0)) refused("harm(1, 2, 2, " + i + ")", y -> y.harm(1, 2, 2, i), INDEX);
        int[][] none = {{0, 1, 2, 3, 3}, {0, 0, 0, 0, 0}, {0, 1, 2, 3, 5}, {1, 2, 3, 4, 5}, {-1, 1, 2, 3, 4}, {8, 1, 2, 3, 4}, {32, 1, 2, 3, 4},
            {0, 1, 2, 3, 36}, {0, 1, 2, 3, -128}};
        for (int[] row : none) {
            for (int lane = 0; lane < 3; lane++) {
                lay(x, 3, lane, row);
                due("no order", x.harm(0, 3, lane, 0), NOT);
            }
            x.drop(3);
        }
    }

    private static void best() {
        says(26, "THE BEST ORDER: its greatest HARM (-1), the sum (-2), who is at place k (0 ..).");
        CoatRings two = line(2, 3);
        two.fear(0, 0, 1);
        hung(two, 6, 6, 0, 1);
        two.fear(1, 0, 1);
        hung(two, 6, 12, 0, 1);
        for (int k = 2; k < 6; k++) two.fear(2, 0, 1);
        hung(two, 6, 36, 0, 1);

        says(26, "BAD: also k that is no place; NOT: nobody is there, nothing is FEARED.");
        for (int k : outside(-2, 4)) refused("best(" + k + ")", x -> x.best(k), BAD);
        for (int k : outside(-2, 5)) refused(Calls::full, "of six, best(" + k + ")", x -> x.best(k), BAD);
        for (int k : outside(-2, -1)) due("nobody, best(" + k + ")", new CoatRings().best(k), BAD);
        for (int k = 0; k < 6; k++) due("nobody, best(" + k + ")", new CoatRings().best(k), BAD);
        refused(CoatRings::new, "nobody", x -> x.best(-1), NOT);
        refused(CoatRings::new, "nobody", x -> x.best(-2), NOT);
        for (int n = 1; n <= 6; n++) {
            for (int k = -2; k < n; k++) {
                int people = n, place = k;
                refused(() -> line(people, 1), "nothing is feared, best(" + k + ")", x -> x.best(place), NOT);
            }
            due("no place", line(n, 1).best(n), BAD);
        }
    }

    private static void bestTies() {
        says(0, "THE BEST ORDER: the least of the greatest HARM by those that are FEARED,");
        CoatRings x = homes(0, 0, 10, 0, 11, 0, 19, 0);
        x.fear(0, 0, 1);
        // The two that are nearest are where the slip is.
        hung(x, 2, 2, 1, 2, 0, 3);
        x.fear(0, 2, 3);
        // Now 0 and 3 would do 38, so each has one of the others.
        hung(x, 20, 20 + 16, 0, 1, 2, 3);

        says(0, "of like ones the least sum of HARMS,");
        CoatRings y = homes(0, 0, 10, 0, 1, 0);
        y.fear(0, 0, 2);
        y.fear(0, 0, 1);
        hung(y, 18, 20, 2, 0, 1);
        y.fear(0, 0, 2);
        hung(y, 18, 22, 2, 1, 0);

        says(0, "of like ones the first as rows of PEOPLE.");
        CoatRings z = line(6, 0);
        z.fear(1, 0, 5);
        hung(z, 0, 0, 0, 1, 2, 3, 4, 5);
        CoatRings w = line(3, 1);
        w.fear(0, 0, 1);
        hung(w, 2, 2, 0, 1, 2);
        due("then", w.person(0, 0, 0), 3);
        // 0 and 3 are at one place.
        hung(w, 0, 0, 0, 3, 1, 2);
        due("another is feared", w.fear(0, 2, 3), 1);
        hung(w, 2, 2, 0, 3, 1, 2);
        w.image();
        w.fear(0, 0, 3);
        hung(w, 2, 4, 0, 3, 2, 1);
        w.restore();
        hung(w, 2, 2, 0, 3, 1, 2);
    }

    private static void hung(CoatRings x, int greatest, int sum, int... order) {
        due("best(-1)", x.best(-1), greatest);
        due("best(-2)", x.best(-2), sum);
        for (int k = 0; k < order.length; k++) due("best(" + k + ")", x.best(k), order[k]);
        due("no place", x.best(order.length), BAD);
    }

    public static void main(String[] args) {
        all();
        end();
    }
}
