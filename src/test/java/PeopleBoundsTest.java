/** The boundary cases that the document names of answers, people and the table: promises 1 to 10. */
public final class PeopleBoundsTest extends Calls {
    static void all() {
        object();
        answers();
        order();
        nothing();
        person();
        told();
        marksAndLikes();
        wont();
        table();
        inn();
        set();
        count();
    }

    private static void object() {
        says(0, "An object is used for at most 512 calls after it has been made");
        CoatRings x = line(2, 1);
        for (int call = 3; call <= 511; call++) due("meet(1), call " + call, x.meet(1), 2);
        due("count(5), call 512", x.count(5), 509);
        CoatRings y = homes(0, 0, 0, 0, 0, 0, 0, 0);
        y.inn(19, 19);
        y.set(1, 4);
        for (int call = 7; call <= 511; call++) due("meet(10015), call " + call, y.meet(10015), 8 * 38);
        due("count(6), call 512", y.count(6), 505 * 8 * 38);
        CoatRings z = line(6, 3);
        for (int call = 7; call <= 511; call++) z.meet(100 * (call % 5) + 5);
        due("plan(-1) is 0 or more, call 512", z.plan(-1) >= 0 ? 1 : 0, 1);

        says(1, "Nobody.");
        CoatRings n = new CoatRings();
        for (int w = 0; w < 8; w++) due("count(" + w + ")", n.count(w), 0);
        for (int w = 0; w < 8; w++) due("told(0, " + w + ")", n.told(0, w), BAD);
        due("well()", n.well(), 1);
        due("fewest()", n.fewest(), 0);
        due("plan(-1)", n.plan(-1), 0);
        due("plan(-2)", n.plan(-2), 0);
        due("plan(0)", n.plan(0), NONE);
        due("atOnce(0)", n.atOnce(0), 0);
        due("atOnce(1)", n.atOnce(1), 0);
        due("meet(1)", n.meet(1), BAD);
        due("forget()", n.forget(), 0);
        due("worlds()", n.worlds(), 1);
        due("trade(0)", n.trade(0), BAD);
        due("sure(0)", n.sure(0), BAD);
        due("may(0, 0)", n.may(0, 0), BAD);
        due("facts()", n.facts(), -20);
        due("restore()", n.restore(), NONE);
        for (int s = 0; s < 4; s++) due("drop(" + s + ")", n.drop(s), NULL);
        due("set(0, 2)", n.set(0, 2), 2);
        due("set(1, 3)", n.set(1, 3), 3);
        due("the first one's number", n.person(0, 0, 0), 0);

        of("one object has nothing of another");
        night();
        alike("another object's calls", new CoatRings(), new CoatRings());
        CoatRings later = new CoatRings();
        due("count(0)", later.count(0), 0);
        due("restore()", later.restore(), NONE);
        due("type", later.type(97, 1), 1);
        due("drop(0)", later.drop(0), NULL);
    }

    private static void answers() {
        says(0, "BAD -1 (a number is not as told, there is no such thing), NOT -2 (as told), FULL -3, NONE -4 (as told), "
            + "CAST -12 (of SHEETS another LANE); what the machine finds: NULL -11, INDEX -13, SIZE -14");
        due("BAD", CoatRings.BAD, -1);
        due("NOT", CoatRings.NOT, -2);
        due("FULL", CoatRings.FULL, -3);
        due("NONE", CoatRings.NONE, -4);
        due("NULL", CoatRings.NULL, -11);
        due("CAST", CoatRings.CAST, -12);
        due("INDEX", CoatRings.INDEX, -13);
        due("SIZE", CoatRings.SIZE, -14);
        CoatRings x = night();
        due("a number is not as told", x.marks(0, 64), -1);
        due("there is no such thing", x.told(5, 0), -1);
        due("as told", x.meet(4), -2);
        due("full", full().inn(0, 0), -3);
        due("as told", x.plan(100), -4);
        due("missing", x.drop(3), -11);
        due("another lane", x.item(0, 1, 0, 0), -12);
        due("no such item", x.item(0, 0, 7, 0), -13);
        due("no such size", x.sheet(0, 0, -1), -14);

        says(0, "Sets of PEOPLE, COATS are bits.");
        CoatRings y = with(line(6, 1), 0, 1, 2, 3, 5, 4);
        y.inn(0, 0);
        due("coats of all six", y.may(5, 0), 63);
        due("the coat of 5", y.may(0, 1) & 32, 32);
        due("people 4 and 5", y.meet(10000 + 16 + 32), 18);
        has(y, 0, 1, 2, 3, 4, 5);
    }

    /** Each pair of refusals that can meet in a call; the first that it names is due. */
    private static void order() {
        says(0, "Answers below 0, of several the first that a call names:");
        refused(Calls::full, "person: BAD, FULL", x -> x.person(20, 0, 0), BAD);
        refused(Calls::full, "person: BAD, FULL", x -> x.person(0, -1, 0), BAD);
        refused(Calls::full, "person: BAD, FULL", x -> x.person(0, 0, 64), BAD);
        refused(Calls::full, "inn: BAD, FULL", x -> x.inn(20, 0), BAD);
        refused(Calls::full, "inn: BAD, FULL", x -> x.inn(0, 20), BAD);
        refused(Calls::full, "fear: BAD, FULL", x -> x.fear(3, 0, 1), BAD);
        refused(Calls::full, "fear: BAD, FULL", x -> x.fear(0, 1, 1), BAD);
        refused(Calls::full, "fear: BAD, FULL", x -> x.fear(0, 0, 6), BAD);
        refused(Calls::full, "type: BAD (n), FULL", x -> x.type(0x6161616161616161L, 9), BAD);
        refused(Calls::full, "type: BAD (a byte), FULL", x -> x.type(0x1f616161, 4), BAD);
        refused("meet: BAD (other order), NOT", x -> x.meet(401), BAD);
        refused("meet: BAD (alone), NOT", x -> x.meet(404), BAD);
        refused("meet: BAD (not there), NOT", x -> x.meet(405), BAD);
        refused("meet: BAD (no inn), NOT", x -> x.meet(12017), BAD);
        refused("meet: BAD (one at an inn), NOT", x -> x.meet(10016), BAD);
        refused("meet: BAD (above SEATS), NOT", x -> x.meet(10019), BAD);
        refused("meet: BAD (not there), NOT", x -> x.meet(10048), BAD);
        refused("meet: BAD (not the least), NOT", x -> x.meet(20004), BAD);
        refused("sheet: BAD (sheet), SIZE", x -> x.sheet(4, 0, -1), BAD);
        refused("sheet: BAD (lane), SIZE", x -> x.sheet(0, 3, -1), BAD);
        refused("sure: BAD, NONE", x -> x.sure(5), BAD);
        refused("explained: BAD, NONE", x -> x.explained(8, 99), BAD);
        refused(CoatRings::new, "explained: BAD (kinds), NOT", x -> x.explained(0, -1), BAD);
        refused(CoatRings::new, "explained: BAD (what), NOT", x -> x.explained(7, -3), BAD);
        refused(CoatRings::new, "explained: NOT, NONE", x -> x.explained(7, 0), NOT);
        refused(CoatRings::new, "next: BAD, NOT", x -> x.next(2), BAD);
        refused(CoatRings::new, "best: BAD, NOT", x -> x.best(0), BAD);
        refused(CoatRings::new, "best: BAD, NOT", x -> x.best(-3), BAD);
        refused(() -> line(2, 1), "best: BAD, NOT (nothing is feared)", x -> x.best(2), BAD);
        refused(PeopleBoundsTest::noWorld, "next: BAD, NONE", x -> x.next(-1), BAD);
        refused(PeopleBoundsTest::noWorld, "sure: BAD, NONE", x -> x.sure(3), BAD);

        says(0, "(NULL, CAST, INDEX, SIZE in this order).");
        refused("table: BAD (sheet), INDEX", x -> x.table(4, 0, -1), BAD);
        refused("table: BAD (lane), NULL", x -> x.table(3, 3, 0), BAD);
        refused("table: BAD (lane), CAST, INDEX", x -> x.table(0, -1, 99), BAD);
        refused("table: NULL, INDEX", x -> x.table(3, 1, -1), NULL);
        refused("table: CAST, INDEX", x -> x.table(0, 1, -1), CAST);
        refused("table: CAST, NOT", x -> x.table(0, 2, 0), CAST);
        refused("table: INDEX, NOT", x -> x.table(0, 0, 3), INDEX);
        refused("harm: BAD (slip), NULL", x -> x.harm(2, 3, 0, 0), BAD);
        refused("harm: BAD (sheet), INDEX", x -> x.harm(0, -1, 0, -1), BAD);
        refused("harm: BAD (lane), NULL", x -> x.harm(0, 3, 3, 0), BAD);
        refused("harm: BAD (lane), CAST, INDEX", x -> x.harm(0, 0, 3, 99), BAD);
        refused("harm: NULL, INDEX", x -> x.harm(0, 3, 0, -1), NULL);
        refused("harm: CAST, INDEX", x -> x.harm(0, 0, 2, 99), CAST);
        refused("harm: CAST, NOT", x -> x.harm(0, 0, 1, 0), CAST);
        refused("harm: INDEX, NOT", x -> x.harm(0, 0, 0, 3), INDEX);
        refused("blocks: BAD (sheet), INDEX", x -> x.blocks(4, 0, -1), BAD);
        refused("blocks: BAD (lane), NULL", x -> x.blocks(3, -1, 0), BAD);
        refused("blocks: BAD (lane), CAST, INDEX", x -> x.blocks(0, 3, 99), BAD);
        refused("blocks: NULL, INDEX", x -> x.blocks(3, 2, -1), NULL);
        refused("blocks: CAST, INDEX", x -> x.blocks(2, 0, 99), CAST);
        refused("blocks: CAST, NOT", x -> x.blocks(0, 1, 0), CAST);
        refused("blocks: INDEX, NOT", x -> x.blocks(0, 0, 3), INDEX);
        refused("item: BAD (sheet), INDEX", x -> x.item(4, 0, -1, 0), BAD);
        refused("item: BAD (lane), NULL", x -> x.item(3, 3, 0, 0), BAD);
        refused("item: BAD (lane), CAST, INDEX", x -> x.item(0, 3, 99, 0), BAD);
        refused("item: NULL, INDEX", x -> x.item(3, 0, -1, 0), NULL);
        refused("item: CAST, INDEX", x -> x.item(1, 2, 99, 0), CAST);
        refused("copy: BAD (from), NULL", x -> x.copy(4, 0, 3, 0, 1), BAD);
        refused("copy: BAD (to), NULL", x -> x.copy(3, 0, -1, 0, 1), BAD);
        refused("copy: NULL (from), INDEX", x -> x.copy(3, -1, 0, 0, -1), NULL);
        refused("copy: NULL (to), INDEX", x -> x.copy(0, 99, 3, 0, 1), NULL);
        refused("copy: CAST, INDEX", x -> x.copy(0, 99, 1, -1, -1), CAST);
    }

    private static CoatRings noWorld() {
        CoatRings x = line(3, 1);
        facts(x, "a=b;b=b", 2);
        return x;
    }

    /** Every call that can be refused, once more for each way; nothing is another one then. */
    private static void nothing() {
        says(0, "What answers so changes nothing, but as told.");
        refused("person", x -> x.person(-1, 0, 0), BAD);
        refused(Calls::full, "person", x -> x.person(0, 0, 0), FULL);
        refused("marks", x -> x.marks(0, 64), BAD);
        refused("likes", x -> x.likes(0, 0, 10), BAD);
        refused("wont", x -> x.wont(5, true), BAD);
        refused("table", x -> x.table(0, 0, 0), NOT);
        refused("table", x -> x.table(0, 0, 2), NOT);
        refused(Calls::full, "inn", x -> x.inn(0, 0), FULL);
        refused("set", x -> x.set(0, 10), BAD);
        refused("set", x -> x.set(1, 5), BAD);
        refused("meet", x -> x.meet(4), NOT);
        refused("meet", x -> x.meet(10017), NOT);
        refused("meet", x -> x.meet(20001), BAD);
        refused("type", x -> x.type(0x61611fL, 3), BAD);
        refused(Calls::full, "type", x -> x.type(0x20202020L, 4), FULL);
        refused(Calls::full, "fear", x -> x.fear(0, 0, 1), FULL);
        refused("fear", x -> x.fear(0, 0, 5), BAD);
        refused(() -> line(3, 1), "restore", CoatRings::restore, NONE);
        refused("sheet", x -> x.sheet(0, 0, -1), SIZE);
        refused("sheet", x -> x.sheet(0, 0, 25), BAD);
        refused("drop", x -> x.drop(3), NULL);
        refused("item", x -> x.item(0, 0, 7, 1), INDEX);
        refused("item", x -> x.item(0, 1, 1, 3), CAST);
        refused("copy", x -> x.copy(0, 1, 0, 3, 5), INDEX);
        refused("copy", x -> x.copy(0, 1, 1, 0, 5), CAST);
        // As told: a fault empties the tape.
        CoatRings x = night();
        due("facts()", x.facts(), 1);
        type(x, "c=");
        due("facts()", x.facts(), -22);
        CoatRings y = night();
        due("facts()", y.facts(), 1);
        alike("a fault", x, y);
    }

    private static void person() {
        says(0, "PEOPLE 0 .. 5, as they come, have a HOME (x, y, 0 .. 19) and a COAT of their number with MARKS (six, bits, 0 .. 63).");
        for (int v = 0; v < 20; v++) {
            CoatRings x = new CoatRings();
            due("x " + v, x.person(v, 3, 4), 0);
            due("y " + v, x.person(3, v, 4), 1);
            due("told", x.told(0, 0), v);
            due("told", x.told(1, 1), v);
        }
        for (int v = 0; v < 64; v++) {
            CoatRings x = new CoatRings();
            due("marks " + v, x.person(0, 19, v), 0);
            due("told", x.told(0, 2), v);
        }

        says(2, "A PERSON: the number.");
        CoatRings six = new CoatRings();
        for (int k = 0; k < 6; k++) {
            due("person", six.person(19 - k, k, k), k);
            due("people", six.count(0), k + 1);
        }

        says(2, "BAD;");
        for (int v : outside(0, 19)) {
            refused("person(" + v + ", 0, 0)", x -> x.person(v, 0, 0), BAD);
            refused("person(0, " + v + ", 0)", x -> x.person(0, v, 0), BAD);
        }
        for (int v : outside(0, 63)) refused("person(0, 0, " + v + ")", x -> x.person(0, 0, v), BAD);

        says(2, "FULL: 6.");
        refused(Calls::full, "a seventh", x -> x.person(0, 0, 0), FULL);
        due("a sixth", night().person(0, 0, 0), 5);
        CoatRings again = full();
        again.restore();
        due("as it was then: full", again.person(0, 0, 0), FULL);
        CoatRings less = night();
        less.restore();
        for (int k = 3; k < 6; k++) due("room again", less.person(0, 0, 0), k);
        due("full again", less.person(0, 0, 0), FULL);

        says(0, "THE TABLE tells which COAT each has: all different; each his own at first (one that comes has his own).");
        for (int k = 0; k < 6; k++) due("his own", six.told(k, 3), k);
        CoatRings come = with(line(5, 1), 1, 2, 3, 4, 0);
        due("one that comes", come.person(0, 0, 0), 5);
        has(come, 1, 2, 3, 4, 0, 5);
    }

    private static void told() {
        says(3, "Of a PERSON: 0 x, 1 y, 2 MARKS, 3 the COAT that he has, 4 who has his, 5 whether he WON'T (1, 0), "
            + "6 the least of his RING, 7 how many are in it.");
        CoatRings x = homes(19, 0, 0, 19, 5, 6, 6, 5, 1, 1, 2, 2);
        x.marks(5, 63);
        x.marks(4, 0);
        with(x, 0, 3, 5, 4, 1, 2);
        x.wont(5, true);
        int[][] all = {{19, 0, 0, 0, 0, 0, 0, 1}, {0, 19, 0, 3, 4, 0, 1, 3}, {5, 6, 0, 5, 5, 0, 2, 2},
            {6, 5, 0, 4, 1, 0, 1, 3}, {1, 1, 0, 1, 3, 0, 1, 3}, {2, 2, 63, 2, 2, 1, 2, 2}};
        for (int p = 0; p < 6; p++) for (int w = 0; w < 8; w++) due("told(" + p + ", " + w + ")", x.told(p, w), all[p][w]);

        says(3, "BAD.");
        for (int p : outside(0, 4)) refused("told(" + p + ", 0)", y -> y.told(p, 0), BAD);
        for (int p : outside(0, 4)) for (int w = 1; w < 8; w++) due("told(" + p + ", " + w + ")", line(5, 1).told(p, w), BAD);
        for (int w : outside(0, 7)) refused("told(0, " + w + ")", y -> y.told(0, w), BAD);
        for (int p : outside(0, 5)) due("of six, told(" + p + ", 3)", x.told(p, 3), BAD);

        says(0, "A RING of THE TABLE: one, he whose COAT he has, and so on till the first is come to again; one who has his own is a RING alone.");
        CoatRings ring = with(line(6, 1), 5, 0, 1, 2, 3, 4);
        for (int p = 0; p < 6; p++) {
            due("the least of six", ring.told(p, 6), 0);
            due("six", ring.told(p, 7), 6);
        }
        CoatRings alone = line(6, 1);
        for (int p = 0; p < 6; p++) {
            due("alone", alone.told(p, 6), p);
            due("one", alone.told(p, 7), 1);
        }
    }

    private static void marksAndLikes() {
        says(4, "MARKS of a COAT: what they were.");
        CoatRings x = line(6, 1);
        int before = 32;
        for (int v = 0; v < 64; v++) {
            due("marks(5, " + v + ")", x.marks(5, v), before);
            due("told", x.told(5, 2), v);
            before = v;
        }
        for (int p = 0; p < 5; p++) due("others'", x.told(p, 2), 1 << p);

        says(4, "BAD.");
        for (int c : outside(0, 4)) refused("marks(" + c + ", 1)", y -> y.marks(c, 1), BAD);
        for (int v : outside(0, 63)) refused("marks(0, " + v + ")", y -> y.marks(0, v), BAD);
        for (int c : outside(0, 5)) due("of six", x.marks(c, 1), BAD);

        says(0, "LIKES of one for a COAT: 0 .. 9 (5 at first).");
        for (int p = 0; p < 6; p++) for (int c = 0; c < 6; c++) due("at first", x.likes(p, c, 9 - p), 5);
        says(5, "LIKES: what it was.");
        for (int v = 0; v < 10; v++) {
            due("likes(5, 0, " + v + ")", x.likes(5, 0, v), v == 0 ? 4 : v - 1);
            due("likes(0, 5, " + v + ")", x.likes(0, 5, v), v == 0 ? 9 : v - 1);
        }
        due("another's for the same", x.likes(4, 0, 0), 5);
        due("his for another", x.likes(5, 1, 0), 4);

        says(5, "BAD.");
        for (int p : outside(0, 4)) {
            refused("likes(" + p + ", 0, 1)", y -> y.likes(p, 0, 1), BAD);
            refused("likes(0, " + p + ", 1)", y -> y.likes(0, p, 1), BAD);
        }
        for (int v : outside(0, 9)) refused("likes(0, 0, " + v + ")", y -> y.likes(0, 0, v), BAD);
        for (int p : outside(0, 5)) {
            due("of six", x.likes(p, 0, 1), BAD);
            due("of six", x.likes(0, p, 1), BAD);
        }
    }

    private static void wont() {
        says(0, "Some WON'T (none at first): they keep what they have.");
        CoatRings x = with(line(6, 1), 1, 2, 3, 4, 5, 0);
        for (int p = 0; p < 6; p++) due("at first", x.told(p, 5), 0);
        for (int p = 0; p < 6; p++) due("wont(" + p + ")", x.wont(p, true), 0);
        for (int n : new int[] {1, 405, 20000}) due("meet(" + n + ")", x.meet(n), NOT);
        for (int p = 0; p < 6; p++) due("by trades, too", x.trade(p), (p + 1) % 6);
        due("nothing to be done", x.plan(-2), 0);
        has(x, 1, 2, 3, 4, 5, 0);
        CoatRings come = wont(line(1, 1), 0);
        due("one more", come.person(0, 0, 0), 1);
        due("he will", come.told(1, 5), 0);

        says(6, "A PERSON WON'T, or will: whether he would not (1, 0).");
        for (int p = 0; p < 6; p++) {
            due("still not", x.wont(p, true), 1);
            due("then he will", x.wont(p, false), 1);
            due("still", x.wont(p, false), 0);
            due("told", x.told(p, 5), 0);
            for (int q = p + 1; q < 6; q++) due("others", x.told(q, 5), 1);
        }

        says(6, "BAD.");
        for (int p : outside(0, 4)) {
            refused("wont(" + p + ", true)", y -> y.wont(p, true), BAD);
            refused("wont(" + p + ", false)", y -> y.wont(p, false), BAD);
        }
        for (int p : outside(0, 5)) due("of six", x.wont(p, true), BAD);
    }

    private static void table() {
        says(7, "THE TABLE: items of a SHEET, taken as a row of a LANE, from item i on, one a PERSON: how many have not their own.");
        for (int lane = 0; lane < 3; lane++) {
            CoatRings x = line(3, 1);
            x.sheet(0, lane, 24);
            for (int k = 0; k < 24; k++) x.item(0, lane, k, k % 3);
            int[] astray = {0, 3, 3};
            for (int i = 0; i <= 21; i++) {
                due("table(0, " + lane + ", " + i + ")", x.table(0, lane, i), astray[i % 3]);
                has(x, i % 3, (i + 1) % 3, (i + 2) % 3);
            }
            due("one item too few", x.table(0, lane, 22), INDEX);
            lay(x, 1, lane, 0, 2, 1);
            due("just one a person", x.table(1, lane, 0), 2);
            has(x, 0, 2, 1);
        }
        CoatRings six = line(6, 1);
        lay(six, 0, 0, 5, 4, 3, 2, 1, 0);
        due("six", six.table(0, 0, 0), 6);
        has(six, 5, 4, 3, 2, 1, 0);
        wont(six, 0, 5);
        lay(six, 0, 0, 0, 1, 2, 3, 5, 4);
        due("told of those who won't, too", six.table(0, 0, 0), 2);
        has(six, 0, 1, 2, 3, 5, 4);
        CoatRings nobody = new CoatRings();
        nobody.sheet(0, 2, 0);
        due("nobody: nothing is taken", nobody.table(0, 2, 0), 0);

        says(7, "BAD; NULL; CAST; INDEX; NOT: that is no TABLE.");
        for (int s : outside(0, 3)) refused("table(" + s + ", 0, 1)", x -> x.table(s, 0, 1), BAD);
        for (int lane : outside(0, 2)) refused("table(0, " + lane + ", 1)", x -> x.table(0, lane, 1), BAD);
        refused("a sheet that holds nothing", x -> x.table(3, 0, 0), NULL);
        for (int s = 0; s < 3; s++) {
            int sheet = s;
            for (int lane = 0; lane < 3; lane++) {
                int other = lane;
                if (lane != s) refused("another lane", x -> x.table(sheet, other, 0), CAST);
            }
        }
        for (int i : outside(0, 2)) refused("table(0, 0, " + i + ")", x -> x.table(0, 0, i), INDEX);
        for (int i : outside(0, 0)) refused("table(1, 1, " + i + ")", x -> x.table(1, 1, i), INDEX);
        noTables();
    }

    /** Also numbers whose lowest bits alone would be fine. */
    private static void noTables() {
        int[][] none = {{0, 1, 1}, {0, 0, 0}, {2, 1, 2}, {0, 1, 3}, {1, 2, 3}, {-1, 1, 2}, {0, 1, -3}, {8, 1, 2}, {0, 9, 2}, {32, 1, 2},
            {0, 1, 34}, {64, 1, 2}, {127, 1, 0}, {-128, 1, 2}};
        for (int[] row : none) for (int lane = 0; lane < 3; lane++) noTable(lane, row);
        noTable(1, 256, 1, 2);
        noTable(1, 0, 1, -254);
        noTable(2, 256, 1, 2);
        noTable(2, 0, 65537, 2);
        noTable(2, MIN, 1, 2);
        noTable(2, 0, 1, MAX);
        noTable(2, 1 << 30, 1, 2);
    }

    private static void noTable(int lane, int... row) {
        CoatRings x = with(line(3, 1), 1, 2, 0);
        lay(x, 0, lane, row);
        due("table of " + row[0] + " " + row[1] + " " + row[2] + " in lane " + lane, x.table(0, lane, 0), NOT);
        has(x, 1, 2, 0);
    }

    private static void inn() {
        says(0, "INNS 0 .. 3, as they come, are at places; RATE is 1 .. 9 (2 at first), SEATS 2 .. 4 (3 at first).");
        CoatRings x = homes(0, 0, 0, 0);
        int[][] at = {{0, 0}, {19, 0}, {0, 19}, {19, 19}};
        says(8, "An INN: its number.");
        for (int k = 0; k < 4; k++) {
            due("inn", x.inn(at[k][0], at[k][1]), k);
            due("inns", x.count(4), k + 1);
        }
        int[] miles = {0, 76, 76, 152};
        for (int k = 0; k < 4; k++) due("where it is", x.meet(10003 + 1000 * k), miles[k]);
        CoatRings same = homes(3, 3);
        for (int k = 0; k < 4; k++) due("inns at one place", same.inn(3, 3), k);

        says(8, "BAD;");
        for (int v : outside(0, 19)) {
            refused("inn(" + v + ", 0)", y -> y.inn(v, 0), BAD);
            refused("inn(0, " + v + ")", y -> y.inn(0, v), BAD);
        }

        says(8, "FULL: 4.");
        refused(Calls::full, "a fifth", y -> y.inn(0, 0), FULL);
        CoatRings y = night();
        due("a third", y.inn(0, 0), 2);
        due("a fourth", y.inn(0, 0), 3);
        due("a fifth", y.inn(0, 0), FULL);
        y.restore();
        due("room again", y.inn(0, 0), 1);
    }

    private static void set() {
        says(9, "RATE (0), SEATS (1): what it was.");
        CoatRings x = new CoatRings();
        int rate = 2, seats = 3;
        for (int v = 1; v <= 9; v++) {
            due("set(0, " + v + ")", x.set(0, v), rate);
            rate = v;
        }
        for (int v = 2; v <= 4; v++) {
            due("set(1, " + v + ")", x.set(1, v), seats);
            seats = v;
        }
        due("the rate is not the seats", x.set(0, 3), 9);
        due("nor the other way", x.set(1, 2), 4);

        says(9, "BAD.");
        for (int v : outside(1, 9)) refused("set(0, " + v + ")", y -> y.set(0, v), BAD);
        for (int v : outside(2, 4)) refused("set(1, " + v + ")", y -> y.set(1, v), BAD);
        for (int w : outside(0, 1)) refused("set(" + w + ", 3)", y -> y.set(w, 3), BAD);
    }

    private static void count() {
        says(10, "How many: 0 PEOPLE, 1 who have not their own, 2 RINGS of two or more, 3 the greatest RING, 4 INNS, "
            + "5 MEETINGS done, 6 their MILES, 7 FEARED SLIPS.");
        counted(new CoatRings(), 0, 0, 0, 0, 0, 0, 0, 0);
        counted(line(1, 1), 1, 0, 0, 1, 0, 0, 0, 0);
        counted(line(6, 1), 6, 0, 0, 1, 0, 0, 0, 0);
        counted(with(line(2, 1), 1, 0), 2, 2, 1, 2, 0, 0, 0, 0);
        counted(with(line(6, 1), 5, 4, 3, 2, 1, 0), 6, 6, 3, 2, 0, 0, 0, 0);
        counted(with(line(6, 1), 1, 2, 3, 4, 5, 0), 6, 6, 1, 6, 0, 0, 0, 0);
        counted(with(line(6, 1), 1, 2, 0, 3, 5, 4), 6, 5, 2, 3, 0, 0, 0, 0);
        counted(full(), 6, 6, 3, 2, 4, 0, 0, 6);
        CoatRings x = night();
        counted(x, 5, 5, 2, 3, 2, 1, 16, 2);
        due("refused", x.meet(4), NOT);
        due("refused", x.meet(9999), BAD);
        counted(x, 5, 5, 2, 3, 2, 1, 16, 2);
        due("back and forth", x.meet(1) + x.meet(1), 28);
        counted(x, 5, 5, 2, 3, 2, 3, 44, 2);

        says(10, "BAD.");
        for (int w : outside(0, 7)) refused("count(" + w + ")", y -> y.count(w), BAD);
    }

    private static void counted(CoatRings x, int... all) {
        for (int w = 0; w < 8; w++) due("count(" + w + ")", x.count(w), all[w]);
    }

    public static void main(String[] args) {
        all();
        end();
    }
}
