import java.util.List;
import java.util.function.ToIntFunction;

/** The boundary cases that the document names of trades and images: promises 27 to 30. */
public final class TradeBoundsTest extends Calls {
    static void all() {
        trade();
        goneAhead();
        blocks();
        blocksNot();
        image();
        restore();
    }

    /** Each one's likes of coats 0, 1, .. as digits. */
    private static CoatRings liked(CoatRings x, String... likes) {
        for (int p = 0; p < likes.length; p++) {
            for (int c = 0; c < likes[p].length(); c++) x.likes(p, c, likes[p].charAt(c) - '0');
        }
        return x;
    }

    private static void traded(CoatRings x, int... coats) {
        for (int p = 0; p < coats.length; p++) due("trade(" + p + ")", x.trade(p), coats[p]);
    }

    private static void trade() {
        says(0, "TRADES: from THE TABLE on: each still there points at who has, of those still there, the COAT that he LIKES most "
            + "(of like ones the least COAT);");
        traded(line(1, 1), 0);
        traded(line(6, 1), 0, 1, 2, 3, 4, 5);
        traded(with(line(6, 1), 1, 2, 3, 4, 5, 0), 1, 2, 3, 4, 5, 0);
        // 0 to 9 are likes, too, and all alike are as all others.
        traded(liked(with(line(3, 1), 1, 2, 0), "000", "000", "000"), 1, 2, 0);
        traded(liked(with(line(3, 1), 1, 2, 0), "999", "999", "999"), 1, 2, 0);
        traded(liked(line(2, 1), "01", "10"), 1, 0);
        traded(liked(line(2, 1), "89", "98"), 1, 0);
        traded(liked(line(2, 1), "09", "09"), 0, 1);
        // 1 and 2 are liked alike by 0: the lesser coat, whoever has it.
        traded(liked(line(3, 1), "055", "900", "900"), 1, 0, 2);
        traded(liked(with(line(3, 1), 0, 2, 1), "055", "900", "900"), 1, 2, 0);

        says(0, "rings of that are done: each has what he points at, and goes; and so on");
        traded(liked(line(6, 1), "090000", "009000", "000900", "000090", "000009", "900000"), 1, 2, 3, 4, 5, 0);
        traded(liked(line(6, 1), "090000", "900000", "000900", "009000", "000009", "000090"), 1, 0, 3, 2, 5, 4);
        // All like 0's coat most, then 1's, and so on: each keeps what is his, the last by himself.
        traded(liked(line(6, 1), "987654", "987654", "987654", "987654", "987654", "987654"), 0, 1, 2, 3, 4, 5);
        traded(liked(with(line(6, 1), 5, 4, 3, 2, 1, 0), "987654", "987654", "987654", "987654", "987654", "987654"), 5, 4, 3, 2, 1, 0);
        // Whoever points at a ring without being in it points anew when it has gone.
        traded(liked(line(4, 1), "0900", "9000", "9080", "9800"), 1, 0, 2, 3);
        traded(liked(line(4, 1), "0900", "9000", "9078", "9087"), 1, 0, 3, 2);

        says(27, "By TRADES: the COAT of a PERSON.");
        CoatRings x = liked(line(2, 1), "09", "90");
        traded(x, 1, 0);
        has(x, 0, 1);
        traded(x, 1, 0);
        with(x, 1, 0);
        traded(x, 1, 0);

        says(27, "BAD.");
        for (int p : outside(0, 4)) refused("trade(" + p + ")", y -> y.trade(p), BAD);
        for (int p : outside(0, 5)) due("of six", line(6, 1).trade(p), BAD);
    }

    private static void goneAhead() {
        says(0, "(those who WON'T have gone ahead of all, with what they have).");
        traded(wont(liked(line(2, 1), "09", "90"), 0), 0, 1);
        traded(wont(liked(line(2, 1), "09", "90"), 1), 0, 1);
        traded(wont(liked(with(line(2, 1), 1, 0), "90", "09"), 0, 1), 1, 0);
        // What one has who won't is not to be had, what others have is, also his own.
        traded(wont(liked(line(3, 1), "098", "000", "900"), 1), 2, 1, 0);
        traded(wont(liked(with(line(3, 1), 1, 2, 0), "980", "000", "089"), 1), 0, 2, 1);
        CoatRings six = liked(line(6, 1), "090000", "009000", "000900", "000090", "000009", "900000");
        traded(wont(six, 0, 1, 2, 3, 4, 5), 0, 1, 2, 3, 4, 5);
        // 4 can't have 5's: all others are alike to him, so he points at who has 0's.
        traded(wont(liked(line(6, 1), "090000", "009000", "000900", "000090", "000009", "900000"), 5), 1, 2, 3, 4, 0, 5);
    }

    private static void blocked(CoatRings x, int want, int... told) {
        for (int lane = 0; lane < 3; lane++) {
            lay(x, lane, lane, told);
            due("blocks(" + lane + ", " + lane + ", 0)", x.blocks(lane, lane, 0), want);
        }
    }

    private static void blocks() {
        says(0, "A set of PEOPLE BLOCKS a told TABLE, if by what they have now they could change among themselves so that each LIKES "
            + "what he has then more than what the told one gives him");
        // One alone, who likes what he has now more.
        blocked(liked(line(2, 1), "50", "55"), 1, 1, 0);
        blocked(liked(line(2, 1), "55", "05"), 2, 1, 0);
        // As much is not more.
        blocked(liked(line(2, 1), "55", "55"), NONE, 1, 0);
        blocked(liked(line(2, 1), "56", "55"), NONE, 0, 1);
        blocked(liked(line(2, 1), "56", "65"), 3, 0, 1);
        blocked(liked(line(2, 1), "56", "65"), NONE, 1, 0);
        // Each of the set, and only with what they have now.
        blocked(liked(line(3, 1), "567", "556", "655"), 5, 0, 1, 2);
        blocked(liked(line(6, 1), "560000", "056000", "005600", "000560", "000056", "600005"), 63, 0, 1, 2, 3, 4, 5);
        blocked(liked(with(line(3, 1), 1, 2, 0), "650", "065", "506"), 7, 1, 2, 0);

        says(0, "(none of those who WON'T is in it): the least set.");
        CoatRings x = liked(line(6, 1), "560000", "650000", "005600", "006500", "000056", "000065");
        blocked(x, 3, 0, 1, 2, 3, 4, 5);
        blocked(wont(x, 0), 12, 0, 1, 2, 3, 4, 5);
        blocked(wont(x, 3), 48, 0, 1, 2, 3, 4, 5);
        blocked(wont(x, 5), NONE, 0, 1, 2, 3, 4, 5);
        // Three (7) are the least as bits, though one alone (8) would block, too.
        blocked(liked(line(4, 1), "5600", "0560", "6055", "0005"), 7, 0, 1, 3, 2);
        blocked(liked(line(4, 1), "5600", "0560", "5055", "0005"), 8, 0, 1, 3, 2);

        says(28, "The least set that BLOCKS a told TABLE (items of a SHEET, taken as a row of a LANE, from item i on).");
        CoatRings from = liked(line(2, 1), "56", "65");
        lay(from, 0, 1, 9, 0, 1, 0, 9);
        due("from 1 on", from.blocks(0, 1, 1), 3);
        due("from 2 on", from.blocks(0, 1, 2), NONE);
        has(from, 0, 1);
    }

    private static void blocksNot() {
        says(28, "BAD; NULL; CAST; INDEX; NOT: that is no TABLE; NONE: none does.");
        for (int s : outside(0, 3)) refused("blocks(" + s + ", 0, 1)", x -> x.blocks(s, 0, 1), BAD);
        for (int lane : outside(0, 2)) refused("blocks(0, " + lane + ", 1)", x -> x.blocks(0, lane, 1), BAD);
        for (int lane = 0; lane < 3; lane++) {
            int l = lane;
            refused("a sheet that holds nothing", x -> x.blocks(3, l, 0), NULL);
            refused("another lane", x -> x.blocks((l + 1) % 3, l, 0), CAST);
            refused("another lane", x -> x.blocks((l + 2) % 3, l, 0), CAST);
        }
        for (int i : outside(0, 2)) refused("blocks(0, 0, " + i + ")", x -> x.blocks(0, 0, i), INDEX);
        for (int i : outside(0, 0)) refused("blocks(2, 2, " + i + ")", x -> x.blocks(2, 2, i), INDEX);
        int[][] none = {{0, 1, 1}, {0, 0, 0}, {0, 1, 3}, {1, 2, 3}, {-1, 1, 2}, {8, 1, 2}, {32, 1, 2}, {0, 1, 34}, {0, 1, -128}};
        CoatRings x = line(3, 1);
        for (int[] row : none) blocked(x, NOT, row);
        blocked(line(1, 1), NONE, 0);
        blocked(line(6, 1), NONE, 5, 4, 3, 2, 1, 0);
        CoatRings nobody = new CoatRings();
        nobody.sheet(0, 0, 0);
        due("nobody", nobody.blocks(0, 0, 0), NONE);
    }

    // ---- images

    /** What may be another one behind a call, so that it is seen to come back. */
    private static final List<ToIntFunction<CoatRings>> CHANGES = List.of(x -> x.person(1, 2, 3), x -> x.marks(0, 62), x -> x.marks(4, 0),
        x -> x.likes(0, 0, 9), x -> x.likes(4, 4, 0), x -> x.wont(0, true), x -> x.wont(4, false), x -> x.table(1, 1, 0), x -> x.inn(1, 1),
        x -> x.set(0, 9), x -> x.set(1, 4), x -> x.meet(1), x -> x.meet(11003), x -> x.meet(20000), x -> x.forget(), x -> x.fear(2, 0, 4));

    private static void image() {
        says(29, "All but SHEETS, THE TAPE is kept as an IMAGE: 1.");
        says(30, "All is as it was then: 1.");
        for (ToIntFunction<CoatRings> change : CHANGES) {
            CoatRings x = night(), y = night();
            due("image", x.image(), 1);
            due("a change", change.applyAsInt(x) >= 0 ? 1 : 0, 1);
            due("restore", x.restore(), 1);
            due("image", y.image(), 1);
            alike("a change that was taken back", x, y);
        }
        CoatRings all = night(), none = night();
        all.image();
        none.image();
        for (ToIntFunction<CoatRings> change : CHANGES) change.applyAsInt(all);
        due("restore", all.restore(), 1);
        alike("all changes", all, none);
        CoatRings told = night(), untold = night();
        told.image();
        untold.image();
        due("facts", told.facts(), 1);
        facts(told, "a=a;b=c;e+2", 3);
        due("restore", told.restore(), 1);
        type(told, "c!c");
        alike("facts", told, untold);
        // Sheets and the tape stay as they are.
        CoatRings x = night(), y = night();
        x.image();
        y.image();
        for (CoatRings z : new CoatRings[] {x, y}) {
            lay(z, 3, 2, 4, 3, 2, 1, 0);
            z.item(0, 0, 0, 3);
            z.copy(1, 0, 1, 1, 4);
            z.drop(2);
            type(z, ";d!d");
        }
        due("restore", x.restore(), 1);
        alike("sheets and the tape", x, y);
        // An image is none of what comes later, and it is kept once: the last counts.
        CoatRings last = line(1, 1);
        last.image();
        last.person(0, 0, 0);
        due("image again", last.image(), 1);
        last.person(0, 0, 0);
        due("restore", last.restore(), 1);
        due("people", last.count(0), 2);
        CoatRings nobody = new CoatRings();
        due("an image of nobody", nobody.image(), 1);
        nobody.person(0, 0, 0);
        due("restore", nobody.restore(), 1);
        due("nobody", nobody.count(0), 0);
        CoatRings full = full();
        due("an image of all there may be", full.restore(), 1);
        alike("an image of all there may be", full, full());
    }

    private static void restore() {
        says(30, "NONE: there is none.");
        refused(CoatRings::new, "none", CoatRings::restore, NONE);
        refused(() -> line(6, 1), "none", CoatRings::restore, NONE);
        of("restore, again and again");
        CoatRings x = line(2, 1);
        due("image", x.image(), 1);
        for (int k = 0; k < 5; k++) {
            due("restore", x.restore(), 1);
            due("restore", x.restore(), 1);
            due("people", x.count(0), 2);
            due("person", x.person(k, k, k), 2);
            due("his likes are as at first", x.likes(2, 1, k), 5);
            due("for his coat, too", x.likes(0, 2, 9), 5);
            due("he will", x.wont(2, true), 0);
            due("may have all", x.may(2, 0), 7);
            facts(x, "c=a;a!c", 2);
            due("meet", x.meet(1), 2);
        }
    }

    public static void main(String[] args) {
        all();
        end();
    }
}
