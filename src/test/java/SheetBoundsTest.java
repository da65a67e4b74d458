/** The boundary cases that the document names of sheets: promises 31 to 34. */
public final class SheetBoundsTest extends Calls {
    private static final int[] WRAPPED = {0, 255, 256, 257, -256, -1, 128, -128, 512, 65535, 65536, -65536, 65792, 1 << 24, 1 << 30, MIN, MAX};

    static void all() {
        sheet();
        sizes();
        drop();
        item();
        lowestBits();
        copy();
        copyRefused();
        copyEach();
    }

    /** By a night of one: whether an item is 0. */
    private static void zero(CoatRings x, int sheet, int lane, int i, boolean is) {
        due("table(" + sheet + ", " + lane + ", " + i + ")", x.table(sheet, lane, i), is ? 0 : NOT);
    }

    private static void sheet() {
        says(0, "SHEETS 0 .. 3 hold nothing (at first), or a row of a LANE: 0 bytes, 1 shorts, 2 ints, of 0 to 24 items (0 at first).");
        for (int s = 0; s < 4; s++) {
            for (int lane = 0; lane < 3; lane++) {
                CoatRings x = line(1, 1);
                due("holds nothing", x.item(s, lane, 0, 0), NULL);
                due("sheet", x.sheet(s, lane, 24), 24);
                for (int i = 0; i < 24; i++) zero(x, s, lane, i, true);
                due("no more", x.table(s, lane, 24), INDEX);
                for (int other = 0; other < 3; other++) due("its lane", x.item(s, other, 0, 0), other == lane ? 1 : CAST);
                for (int t = 0; t < 4; t++) if (t != s) due("others hold nothing", x.drop(t), NULL);
            }
        }

        says(31, "A SHEET holds a new row of a LANE: n.");
        CoatRings x = line(1, 1);
        for (int lane = 0; lane < 3; lane++) {
            due("sheet", x.sheet(2, lane, 24), 24);
            for (int i = 0; i < 24; i++) due("item", x.item(2, lane, i, 7), 1);
            due("a new one", x.sheet(2, lane, 20), 20);
            for (int i = 0; i < 20; i++) zero(x, 2, lane, i, true);
            due("of 20", x.item(2, lane, 20, 7), INDEX);
            due("of 20", x.item(2, lane, 19, 7), 1);
            due("a new one", x.sheet(2, lane, 24), 24);
            for (int i = 0; i < 24; i++) zero(x, 2, lane, i, true);
        }
        due("dropped", x.drop(2), 24);
        due("a new one", x.sheet(2, 0, 24), 24);
        zero(x, 2, 0, 23, true);
    }

    private static void sizes() {
        says(31, "BAD: also n above 24;");
        for (int n = 0; n <= 24; n++) {
            CoatRings x = new CoatRings();
            due("sheet(0, 1, " + n + ")", x.sheet(0, 1, n), n);
            if (n > 0) due("the last item", x.item(0, 1, n - 1, 1), 1);
            due("behind it", x.item(0, 1, n, 1), INDEX);
            due("drop", x.drop(0), n);
        }
        for (int n : outside(MIN / 2, 24)) if (n > 24) refused("sheet(0, 0, " + n + ")", x -> x.sheet(0, 0, n), BAD);
        for (int s : outside(0, 3)) refused("sheet(" + s + ", 0, 1)", x -> x.sheet(s, 0, 1), BAD);
        for (int lane : outside(0, 2)) refused("sheet(0, " + lane + ", 1)", x -> x.sheet(0, lane, 1), BAD);

        says(31, "SIZE: n below 0.");
        for (int n : outside(0, MAX - 1)) if (n < 0) refused("sheet(0, 0, " + n + ")", x -> x.sheet(0, 0, n), SIZE);
        refused("a sheet that holds nothing", x -> x.sheet(3, 2, -1), SIZE);
        refused("of another lane", x -> x.sheet(0, 2, -24), SIZE);
    }

    private static void drop() {
        says(32, "A SHEET holds nothing: how many items it had.");
        for (int n = 0; n <= 24; n++) {
            CoatRings x = new CoatRings();
            due("sheet", x.sheet(n % 4, n % 3, n), n);
            due("drop", x.drop(n % 4), n);
            due("holds nothing then", x.drop(n % 4), NULL);
            due("holds nothing then", x.item(n % 4, n % 3, 0, 0), NULL);
        }
        CoatRings y = night();
        due("drop", y.drop(1), 5);
        due("others stay", y.drop(0), 7);
        due("others stay", y.drop(2), 5);

        says(32, "BAD; NULL.");
        for (int s : outside(0, 3)) refused("drop(" + s + ")", x -> x.drop(s), BAD);
        refused("drop(3)", x -> x.drop(3), NULL);
        for (int s = 0; s < 4; s++) due("at first", new CoatRings().drop(s), NULL);
    }

    private static void item() {
        says(33, "Item i of a SHEET, taken as a row of a LANE, becomes");
        for (int lane = 0; lane < 3; lane++) {
            CoatRings x = line(1, 1);
            x.sheet(0, lane, 24);
            x.sheet(1, lane, 24);
            for (int i = 0; i < 24; i++) {
                due("item", x.item(0, lane, i, 1), 1);
                for (int k = 0; k < 24; k += 23) zero(x, 0, lane, k, k > i);
                zero(x, 1, lane, i, true);
            }
            due("item", x.item(0, lane, 23, 0), 1);
            zero(x, 0, lane, 23, true);
            zero(x, 0, lane, 22, false);
        }

        says(33, "BAD; NULL; CAST; INDEX.");
        for (int s : outside(0, 3)) refused("item(" + s + ", 0, 0, 1)", x -> x.item(s, 0, 0, 1), BAD);
        for (int lane : outside(0, 2)) refused("item(0, " + lane + ", 0, 1)", x -> x.item(0, lane, 0, 1), BAD);
        for (int lane = 0; lane < 3; lane++) {
            int l = lane;
            refused("a sheet that holds nothing", x -> x.item(3, l, 0, 1), NULL);
            refused("another lane", x -> x.item((l + 1) % 3, l, 0, 3), CAST);
            refused("another lane", x -> x.item((l + 2) % 3, l, 0, 3), CAST);
        }
        for (int i : outside(0, 6)) refused("item(0, 0, " + i + ", 1)", x -> x.item(0, 0, i, 1), INDEX);
        for (int i : outside(0, 4)) refused("item(1, 1, " + i + ", 1)", x -> x.item(1, 1, i, 1), INDEX);
        CoatRings none = new CoatRings();
        none.sheet(0, 0, 0);
        for (int i = -2; i < 26; i++) due("of no items", none.item(0, 0, i, 1), INDEX);
    }

    private static void lowestBits() {
        says(33, "v, its lowest bits: 1.");
        for (int v : WRAPPED) {
            CoatRings x = line(1, 1);
            for (int lane = 0; lane < 3; lane++) {
                lay(x, lane, lane, 1, 1, 1);
                due("item(.., " + v + ")", x.item(lane, lane, 1, v), 1);
                zero(x, lane, lane, 1, (lane == 0 ? (byte) v : lane == 1 ? (short) v : v) == 0);
                zero(x, lane, lane, 0, false);
                zero(x, lane, lane, 2, false);
            }
        }
        // Of bytes the lowest eight, of shorts sixteen, of ints all.
        CoatRings x = line(4, 1);
        lay(x, 0, 0, 256 + 3, -256 + 2, 65536 + 1, MIN);
        due("bytes", x.table(0, 0, 0), 4);
        has(x, 3, 2, 1, 0);
        lay(x, 1, 1, 65536 + 1, -65536, (1 << 24) + 3, MIN + 2);
        due("shorts", x.table(1, 1, 0), 4);
        has(x, 1, 0, 3, 2);
        lay(x, 2, 2, 0, 1, 3, 2);
        due("ints", x.table(2, 2, 0), 2);
        has(x, 0, 1, 3, 2);
    }

    private static void copy() {
        says(34, "n items of a SHEET from i on come to another one (or the same) from j on, as if all were taken ahead: n.");
        for (int lane = 0; lane < 3; lane++) {
            CoatRings x = line(3, 1);
            lay(x, 0, lane, 2, 0, 1, 2, 0);
            lay(x, 1, lane, 0, 1, 2);
            due("all of another", x.copy(0, 0, 1, 0, 3), 3);
            due("2 0 1", x.table(1, lane, 0), 3);
            has(x, 2, 0, 1);
            due("the last ones", x.copy(0, 2, 1, 0, 3), 3);
            due("1 2 0", x.table(1, lane, 0), 3);
            has(x, 1, 2, 0);
            due("none", x.copy(0, 5, 1, 3, 0), 0);
            due("none", x.copy(0, 0, 1, 0, 0), 0);
            has(x, 1, 2, 0);
            due("the same one, on", x.copy(0, 0, 0, 2, 3), 3);
            // 2 0 2 0 1
            due("2 0 1", x.table(0, lane, 2), 3);
            due("no table", x.table(0, lane, 1), NOT);
            lay(x, 0, lane, 0, 2, 1, 0, 2);
            due("the same one, back", x.copy(0, 1, 0, 0, 4), 4);
            // 2 1 0 2 2
            due("2 1 0", x.table(0, lane, 0), 2);
            due("1 0 2", x.table(0, lane, 1), 2);
            due("the same one, to where it is", x.copy(0, 0, 0, 0, 5), 5);
            due("2 1 0", x.table(0, lane, 0), 2);
            // What was copied is its own.
            lay(x, 1, lane, 0, 0, 0);
            due("copy", x.copy(0, 0, 1, 0, 3), 3);
            due("item", x.item(0, lane, 0, 0), 1);
            due("2 1 0", x.table(1, lane, 0), 2);
            due("no table", x.table(0, lane, 0), NOT);
        }
        CoatRings most = line(1, 1);
        most.sheet(0, 2, 24);
        most.sheet(3, 2, 24);
        for (int k = 0; k < 24; k++) most.item(0, 2, k, 5);
        due("all 24", most.copy(0, 0, 3, 0, 24), 24);
        for (int k = 0; k < 24; k++) zero(most, 3, 2, k, false);
    }

    private static void copyRefused() {
        says(34, "BAD; NULL (either); CAST: of unlike LANES; INDEX.");
        for (int s : outside(0, 3)) {
            refused("copy(" + s + ", 0, 0, 0, 1)", x -> x.copy(s, 0, 0, 0, 1), BAD);
            refused("copy(0, 0, " + s + ", 0, 1)", x -> x.copy(0, 0, s, 0, 1), BAD);
        }
        for (int s = 0; s < 3; s++) {
            int one = s, other = (s + 1) % 3;
            refused("from nothing", x -> x.copy(3, 0, one, 0, 1), NULL);
            refused("to nothing", x -> x.copy(one, 0, 3, 0, 1), NULL);
            refused("unlike lanes", x -> x.copy(one, 0, other, 0, 1), CAST);
            refused("unlike lanes", x -> x.copy(other, 0, one, 0, 1), CAST);
            refused("unlike lanes, no items", x -> x.copy(one, 0, other, 0, 0), CAST);
        }
        refused("from nothing to nothing", x -> x.copy(3, 0, 3, 0, 0), NULL);
        for (int v : outside(0, 7)) {
            refused("from " + v, x -> x.copy(0, v, 0, 0, 1), INDEX);
            refused("to " + v, x -> x.copy(0, 0, 0, v, 1), INDEX);
            refused(v + " items", x -> x.copy(0, 0, 0, 0, v), INDEX);
            // Sums that would wrap round.
            refused("from 7, " + v + " items", x -> x.copy(0, 7, 0, 0, v), INDEX);
            refused("to 7, " + v + " items", x -> x.copy(0, 0, 0, 7, v), INDEX);
            refused("from and to " + v, x -> x.copy(0, v, 0, v, MAX - 2), INDEX);
            refused("from " + v + ", " + (MIN - v) + " items", x -> x.copy(0, v, 0, 0, MIN - v), INDEX);
        }
        refused("the end of one", x -> x.copy(0, 3, 0, 0, 5), INDEX);
        refused("the end of the other", x -> x.copy(0, 0, 0, 3, 5), INDEX);
    }

    /** All small copies, held against the machine's own. */
    private static void copyEach() {
        says(34, "INDEX.");
        for (int a = 0; a < 4; a++) {
            for (int b = 0; b < 4; b++) {
                for (int i = -1; i <= 4; i++) {
                    for (int j = -1; j <= 4; j++) {
                        for (int n = -1; n <= 4; n++) copied(a, b, i, j, n);
                    }
                }
            }
        }
    }

    /** Of a row of a, which is 1 2 3 .. to one of b zeros, and of itself. */
    private static void copied(int a, int b, int i, int j, int n) {
        CoatRings x = line(1, 1);
        int[] from = new int[a], to = new int[b];
        x.sheet(1, 1, b);
        for (int k = 0; k < a; k++) from[k] = k % 2;
        lay(x, 0, 1, from);
        due("copy(0, " + i + ", 1, " + j + ", " + n + ")", x.copy(0, i, 1, j, n), machine(from, i, to, j, n));
        for (int k = 0; k < b; k++) zero(x, 1, 1, k, to[k] == 0);
        due("copy(0, " + i + ", 0, " + j + ", " + n + ")", x.copy(0, i, 0, j, n), machine(from, i, from, j, n));
        for (int k = 0; k < a; k++) zero(x, 0, 1, k, from[k] == 0);
    }

    private static int machine(int[] from, int i, int[] to, int j, int n) {
        try {
            System.arraycopy(from, i, to, j, n);
            return n;
        } catch (IndexOutOfBoundsException e) {
            return INDEX;
        }
    }

    public static void main(String[] args) {
        all();
        end();
    }
}
