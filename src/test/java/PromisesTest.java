/** Each promise by itself: ordinary inputs, the edges that the document names, wrong inputs. What is due was worked out by hand. */
public final class PromisesTest extends Calls {
    private static void p1() {
        CoatRings x = new CoatRings();
        for (int what = 0; what < 8; what++) due("count " + what, x.count(what), 0);
        due("BAD", CoatRings.BAD, -1);
        due("NOT", CoatRings.NOT, -2);
        due("FULL", CoatRings.FULL, -3);
        due("NONE", CoatRings.NONE, -4);
        due("NULL", CoatRings.NULL, -11);
        due("CAST", CoatRings.CAST, -12);
        due("INDEX", CoatRings.INDEX, -13);
        due("SIZE", CoatRings.SIZE, -14);
        due("rate at first", x.set(0, 9), 2);
        due("seats at first", x.set(1, 4), 3);
        due("no image", x.restore(), NONE);
        due("well", x.well(), 1);
        due("worlds", x.worlds(), 1);
        for (int s = 0; s < 4; s++) due("no sheet", x.drop(s), NULL);
        due("the tape is empty", x.type(97, 1), 1);
    }

    private static void p2() {
        CoatRings x = new CoatRings();
        int[][] bad = {{-1, 0, 0}, {20, 0, 0}, {0, -1, 0}, {0, 20, 0}, {0, 0, -1}, {0, 0, 64}, {MIN, 0, 0}, {0, MAX, 0}};
        for (int[] b : bad) due("person", x.person(b[0], b[1], b[2]), BAD);
        due("people", x.count(0), 0);
        for (int k = 0; k < 6; k++) due("person", x.person(19, 19, 63), k);
        due("a seventh", x.person(0, 0, 0), FULL);
        due("BAD is named ahead of FULL", x.person(20, 0, 0), BAD);
        due("people", x.count(0), 6);
        CoatRings y = with(line(2, 1), 1, 0);
        due("one more", y.person(5, 5, 0), 2);
        due("has his own", y.told(2, 3), 2);
        due("others keep theirs", y.told(0, 3), 1);
    }

    private static void p3() {
        CoatRings x = new CoatRings();
        x.person(3, 17, 42);
        x.person(1, 2, 0);
        x.person(4, 5, 6);
        x.person(9, 9, 9);
        with(x, 0, 2, 3, 1);
        int[][] all = {{3, 17, 42, 0, 0, 0, 0, 1}, {1, 2, 0, 2, 3, 0, 1, 3}, {4, 5, 6, 3, 1, 1, 1, 3}, {9, 9, 9, 1, 2, 0, 1, 3}};
        x.wont(2, true);
        for (int p = 0; p < 4; p++) for (int w = 0; w < 8; w++) due("told " + p + " " + w, x.told(p, w), all[p][w]);
        due("told", x.told(4, 0), BAD);
        due("told", x.told(-1, 0), BAD);
        due("told", x.told(0, 8), BAD);
        due("told", x.told(0, -1), BAD);
        due("told", x.told(MIN, MAX), BAD);
    }

    private static void p4() {
        CoatRings x = line(2, 1);
        due("marks", x.marks(1, 63), 2);
        due("marks", x.marks(1, 0), 63);
        due("told", x.told(1, 2), 0);
        due("marks", x.marks(1, 64), BAD);
        due("marks", x.marks(1, -1), BAD);
        due("marks", x.marks(2, 1), BAD);
        due("marks", x.marks(-1, 1), BAD);
        due("told", x.told(1, 2), 0);
    }

    private static void p5() {
        CoatRings x = line(2, 1);
        due("likes", x.likes(0, 1, 9), 5);
        due("likes", x.likes(0, 1, 0), 9);
        due("likes", x.likes(1, 0, 3), 5);
        due("likes", x.likes(0, 1, 10), BAD);
        due("likes", x.likes(0, 1, -1), BAD);
        due("likes", x.likes(2, 1, 1), BAD);
        due("likes", x.likes(0, 2, 1), BAD);
        due("likes", x.likes(-1, 0, 1), BAD);
        due("likes", x.likes(0, -1, 1), BAD);
        due("likes", x.likes(0, 1, 5), 0);
        x.person(0, 0, 0);
        due("of one that comes", x.likes(2, 0, 1), 5);
        due("for his coat", x.likes(0, 2, 1), 5);
    }

    private static void p6() {
        CoatRings x = line(2, 1);
        due("wont", x.wont(1, true), 0);
        due("wont", x.wont(1, true), 1);
        due("told", x.told(1, 5), 1);
        due("told", x.told(0, 5), 0);
        due("wont", x.wont(1, false), 1);
        due("wont", x.wont(1, false), 0);
        due("wont", x.wont(2, true), BAD);
        due("wont", x.wont(-1, false), BAD);
    }

    private static void p7() {
        CoatRings x = line(3, 1);
        due("table", x.table(0, 0, 0), NULL);
        lay(x, 0, 0, 9, 256 + 1, 2, 0, 9);
        lay(x, 1, 1, 1, 65536, 2);
        lay(x, 2, 2, 65536, 1, 2);
        due("table", x.table(0, 0, 1), 3);
        due("told", x.told(0, 3), 1);
        due("told", x.told(1, 3), 2);
        due("told", x.told(2, 3), 0);
        due("shorts", x.table(1, 1, 0), 2);
        due("ints", x.table(2, 2, 0), NOT);
        due("told", x.told(0, 3), 1);
        due("told", x.told(1, 3), 0);
        due("table", x.table(-1, 0, 0), BAD);
        due("table", x.table(4, 0, 0), BAD);
        due("table", x.table(0, 3, 0), BAD);
        due("table", x.table(0, -1, 0), BAD);
        due("BAD ahead of NULL", x.table(3, 3, 0), BAD);
        due("NULL ahead of CAST", x.table(3, 1, 9), NULL);
        due("CAST ahead of INDEX", x.table(0, 1, 9), CAST);
        due("INDEX ahead of NOT", x.table(0, 0, 3), INDEX);
        due("INDEX", x.table(0, 0, -1), INDEX);
        due("INDEX", x.table(0, 0, MAX), INDEX);
        due("INDEX", x.table(0, 0, MIN), INDEX);
        due("NOT", x.table(0, 0, 0), NOT);
        lay(x, 0, 0, 0, 0, 1);
        due("one twice", x.table(0, 0, 0), NOT);
        lay(x, 0, 0, 0, 1, 3);
        due("no such one", x.table(0, 0, 0), NOT);
        lay(x, 0, 0, 0, 1, -1);
        due("below 0", x.table(0, 0, 0), NOT);
        due("told", x.told(0, 3), 1);
        CoatRings y = new CoatRings();
        due("nobody", y.table(0, 0, 0), NULL);
        y.sheet(0, 2, 0);
        due("nobody", y.table(0, 2, 0), 0);
    }

    private static void p8() {
        CoatRings x = new CoatRings();
        due("inn", x.inn(-1, 0), BAD);
        due("inn", x.inn(0, 20), BAD);
        due("inn", x.inn(20, 0), BAD);
        due("inn", x.inn(0, -1), BAD);
        for (int k = 0; k < 4; k++) due("inn", x.inn(19, k), k);
        due("inn", x.inn(0, 0), FULL);
        due("inn", x.inn(0, 20), BAD);
        due("inns", x.count(4), 4);
    }

    private static void p9() {
        CoatRings x = new CoatRings();
        due("set", x.set(0, 1), 2);
        due("set", x.set(0, 9), 1);
        due("set", x.set(1, 2), 3);
        due("set", x.set(1, 4), 2);
        int[][] bad = {{0, 0}, {0, 10}, {1, 1}, {1, 5}, {2, 2}, {-1, 2}, {MIN, 2}, {0, MAX}};
        for (int[] b : bad) due("set", x.set(b[0], b[1]), BAD);
        due("set", x.set(0, 2), 9);
        due("set", x.set(1, 3), 4);
    }

    private static void p10() {
        CoatRings x = with(line(6, 2), 1, 2, 0, 4, 3, 5);
        int[] at = {6, 5, 2, 3, 0, 0, 0, 0};
        for (int w = 0; w < 8; w++) due("count " + w, x.count(w), at[w]);
        x.inn(0, 0);
        x.fear(0, 0, 1);
        x.fear(0, 0, 1);
        x.meet(304);
        x.meet(12);
        x.meet(1);
        int[] then = {6, 2, 1, 2, 1, 2, 8, 2};
        for (int w = 0; w < 8; w++) due("count " + w, x.count(w), then[w]);
        due("count", x.count(8), BAD);
        due("count", x.count(-1), BAD);
        due("a ring alone", line(1, 1).count(3), 1);
    }

    private static void p11() {
        CoatRings x = with(line(5, 2), 1, 2, 0, 4, 3);
        due("a pair", x.meet(3), 12);
        due("told", x.told(0, 3), 4);
        due("told", x.told(3, 3), 1);
        due("back again", x.meet(3), 12);
        int[] none = {-1, MIN, MAX, 0, 101, 100, 201, 5, 405, 10003, 10000, 20001, 20002, 20005, 20004, 30000, 20100};
        for (int n : none) due("meet " + n, x.meet(n), BAD);
        x.inn(2, 1);
        x.inn(8, 0);
        int[] noInn = {10000, 10001, 10015, 10032, 10035, 12003, 10064, 10128, 10999};
        for (int n : noInn) due("meet " + n, x.meet(n), BAD);
        // 0 has 1, 1 has 2, 2 has 0: there are 1 and 2 with coats 2 and 0.
        due("at an inn", x.meet(10006), 2 * (1 + 3));
        due("has his", x.told(2, 3), 2);
        due("has what is left", x.told(1, 3), 0);
        due("SEATS", x.set(1, 4), 3);
        due("four", x.meet(11000 + 1 + 4 + 8 + 16), 2 * (8 + 4 + 2));
        due("told", x.told(3, 3), 3);
        due("told", x.told(4, 3), 4);
        due("what is left is the least one's", x.told(0, 3), 1);
        with(x, 1, 2, 3, 4, 0);
        due("the least coat goes to the least one", x.meet(11000 + 1 + 4 + 16), 2 * (8 + 4));
        due("told", x.told(0, 3), 0);
        due("told", x.told(2, 3), 1);
        due("told", x.told(4, 3), 3);
        with(x, 1, 2, 0, 4, 3);
        due("by post", x.meet(20000), 2 * (2 + 2 + 4));
        for (int p = 0; p < 3; p++) due("told", x.told(p, 3), p);
        due("not of a ring alone", x.meet(20000), BAD);
        x.set(0, 5);
        due("wont", x.wont(4, true), 0);
        due("by post", x.meet(20003), NOT);
        due("a pair", x.meet(304), NOT);
        due("at an inn", x.meet(10024), NOT);
        due("BAD ahead of NOT", x.meet(20004), BAD);
        x.wont(4, false);
        due("by post", x.meet(20003), 5 * (2 + 2));
        CoatRings y = with(line(3, 1), 1, 2, 0);
        y.inn(1, 0);
        due("all at an inn", y.meet(10007), 4);
        due("well", y.well(), 1);
        due("meetings", x.count(5), 7);
        due("miles", x.count(6), 12 + 12 + 8 + 28 + 24 + 16 + 20);
    }

    private static void p12() {
        CoatRings x = with(line(4, 1), 1, 2, 0, 3);
        due("well", x.well(), 0);
        x.wont(0, true);
        // 0 keeps 1's: 1 may go without; 2 must have his own.
        due("well", x.well(), 0);
        x.meet(12);
        x.meet(102);
        due("well", x.well(), 1);
        due("1 has what 0 lacks", x.told(1, 3), 0);
        x.wont(0, false);
        due("well", x.well(), 0);
        due("nobody", new CoatRings().well(), 1);
    }

    private static void p13() {
        due("nobody", new CoatRings().fewest(), 0);
        due("a ring of six", with(line(6, 1), 1, 2, 3, 4, 5, 0).fewest(), 5);
        due("three rings", with(line(6, 1), 1, 0, 3, 2, 5, 4).fewest(), 3);
        CoatRings x = with(line(6, 1), 1, 2, 3, 4, 5, 0);
        x.wont(0, true);
        due("one won't", x.fewest(), 4);
        x.wont(3, true);
        due("two won't", x.fewest(), 2);
        x.wont(1, true);
        due("three won't", x.fewest(), 1);
        for (int p = 0; p < 6; p++) x.wont(p, true);
        due("all won't", x.fewest(), 0);
    }

    private static void p14() {
        CoatRings x = with(line(4, 3), 1, 2, 3, 0);
        // Each change of neighbours takes the coat of 3 on: 203, 102, 1 are least, in this order only.
        plan(x, 18, 203, 102, 1);
        due("plan", x.plan(-3), BAD);
        due("plan", x.plan(MIN), BAD);
        due("plan", x.plan(MAX), NONE);
        x.set(0, 1);
        plan(x, 18, 20000);
        x.set(0, 2);
        plan(x, 18, 203, 102, 1);
        plan(with(line(4, 3), 0, 1, 2, 3), 0);
        plan(new CoatRings(), 0);
        // All at one place: no miles, so the fewest meetings, the first by numbers.
        CoatRings y = with(line(4, 0), 1, 2, 3, 0);
        plan(y, 0, 20000);
        y.wont(0, true);
        plan(y, 0, 102, 103);
        y.inn(0, 0);
        plan(y, 0, 10014);
        y.set(1, 2);
        plan(y, 0, 102, 103);
        // An inn between is better than far ways by two.
        CoatRings z = new CoatRings();
        z.person(10, 0, 0);
        z.person(0, 10, 0);
        z.person(10, 19, 0);
        z.inn(10, 10);
        with(z, 1, 2, 0);
        plan(z, 58, 10007);
        z.wont(0, true);
        plan(z, 38, 102);
        z.inn(5, 10);
        plan(z, 38, 102);
        ties();
    }

    /** 0 won't and has 1's, 1 has 2's; 3, 4, 5 at one place have each other's. Either can come first: the pair does. */
    private static void ties() {
        CoatRings x = new CoatRings();
        x.person(0, 0, 0);
        x.person(1, 0, 0);
        x.person(4, 0, 0);
        for (int k = 0; k < 3; k++) x.person(9, 9, 0);
        with(x, 1, 2, 0, 4, 5, 3);
        x.wont(0, true);
        plan(x, 6, 102, 20003);
        x.inn(9, 9);
        plan(x, 6, 102, 10056);
        x.inn(9, 9);
        plan(x, 6, 102, 10056);
        x.wont(1, true);
        x.wont(2, true);
        plan(x, 0, 10056);
        x.set(1, 2);
        plan(x, 0, 20003);
        x.wont(5, true);
        // 5 keeps 3's: 4 and 5 are at one place.
        plan(x, 0, 304);
    }

    private static void plan(CoatRings x, int miles, int... numbers) {
        due("plan(-1)", x.plan(-1), miles);
        due("plan(-2)", x.plan(-2), numbers.length);
        for (int k = 0; k < numbers.length; k++) due("plan(" + k + ")", x.plan(k), numbers[k]);
        due("behind the last", x.plan(numbers.length), NONE);
    }

    private static void p15() {
        due("nobody", new CoatRings().atOnce(0), 0);
        due("nobody", new CoatRings().atOnce(1), 0);
        CoatRings x = with(line(6, 1), 1, 0, 3, 2, 5, 4);
        due("one day", x.atOnce(0), 1);
        due("miles", x.atOnce(1), 6);
        with(x, 1, 2, 0, 3, 4, 5);
        due("two days", x.atOnce(0), 2);
        // (1 2) then (0 1): as far as coats must go.
        due("miles", x.atOnce(1), 4);
        with(x, 1, 2, 3, 0, 4, 5);
        due("two days", x.atOnce(0), 2);
        // A ring of four in two days: 0 with 1, 2 with 3 and one of 0 with 2, 1 with 3, or of 0 with 3, 1 with 2.
        due("miles", x.atOnce(1), 8);
        x.wont(0, true);
        due("one won't: a ring of three is left", x.atOnce(0), 2);
        x.wont(1, true);
        due("two won't: a pair is left", x.atOnce(0), 1);
        due("miles", x.atOnce(1), 2);
        due("atOnce", x.atOnce(2), BAD);
        due("atOnce", x.atOnce(-1), BAD);
    }

    private static void p16() {
        CoatRings x = line(2, 1);
        due("type", x.type(97, 0), BAD);
        due("type", x.type(97, 9), BAD);
        due("type", x.type(97, MIN), BAD);
        due("nine, all of them signs", x.type(0x6161616161616161L, 9), BAD);
        due("type", x.type(31, 1), BAD);
        due("type", x.type(127, 1), BAD);
        due("type", x.type(-1L, 8), BAD);
        due("an upper one", x.type(0x1f61L, 2), BAD);
        due("what is above does not count", x.type(0xff00L | 97, 1), 1);
        due("type", x.type(0x3d62L, 2), 3);
        due("facts", x.facts(), 1);
        due("sure", x.sure(0), 1);
        for (int k = 1; k <= 12; k++) due("type", x.type(0x2020202020202020L, 8), 8 * k);
        due("type", x.type(0x7e7e7e7e7eL, 5), FULL);
        due("BAD ahead of FULL", x.type(0x1f7e7e7e7eL, 5), BAD);
        due("type", x.type(0x613d6220L, 4), 100);
        due("type", x.type(97, 1), FULL);
        due("facts", x.facts(), 1);
        due("empty", x.type(97, 1), 1);
    }

    private static void p17() {
        CoatRings x = line(3, 1);
        facts(x, "", -20);
        facts(x, "   ", -23);
        facts(x, "a", -21);
        facts(x, "a=", -22);
        facts(x, "d=a", -20);
        facts(x, "a=d", -22);
        facts(x, "A=a", -20);
        facts(x, "a?b", -21);
        facts(x, "a+0", -22);
        facts(x, "a-7", -22);
        facts(x, "a+b", -22);
        facts(x, "a=1", -22);
        facts(x, "a!b;", -24);
        facts(x, "a!b; ", -25);
        facts(x, "a!b;;", -24);
        facts(x, "a!b c", -24);
        facts(x, " a = x", -25);
        facts(x, ";a=b", -20);
        due("nothing holds of these", x.may(0, 0), 7);
        facts(x, "a!b;a!d", -26);
        due("nothing holds of a part", x.may(0, 0), 7);
        facts(x, " a ! b ", 1);
        due("may", x.may(0, 0), 5);
        facts(x, "a+3;b-2", 2);
        due("may", x.may(0, 0), 4);
        due("may", x.may(1, 0), 5);
        x.marks(0, 0);
        due("by marks as they were", x.may(0, 0), 4);
        facts(x, "a-3", 1);
        due("none left", x.may(0, 0), 0);
        x.forget();
        facts(x, "a!a;a!a;a!a;a!a;a!a;a!a;a!a;a!a;a!a;a!a;a!a;a!b", 12);
        due("may", x.may(0, 0), 4);
        x.forget();
        facts(x, "a!a;a!a;a!a;a!a;a!a;a!a;a!a;a!a;a!a;a!a;a!a;a!b;a!c", -67);
        facts(x, "a!a;a!a;a!a;a!a;a!a;a!a;a!a;a!a;a!a;a!a;a!a;a!b ;", -68);
        due("may", x.may(0, 0), 7);
        facts(x, "c=a;b!a", 2);
        x.person(0, 0, 0);
        due("his coat may be anybody's", x.may(2, 0), 9);
        due("his coat may be anybody's", x.may(1, 0), 14);
        due("he may have all", x.may(3, 0), 15);
        facts(new CoatRings(), "a=a", -20);
    }

    private static void p18() {
        CoatRings x = line(3, 1);
        facts(x, "a=b;b=c", 2);
        due("forget", x.forget(), 3);
        for (int p = 0; p < 3; p++) due("may", x.may(p, 0), 7);
        due("worlds", x.worlds(), 6);
        due("forget", new CoatRings().forget(), 0);
        type(x, "a=");
        x.forget();
        due("the tape stays", x.type('b', 1), 3);
    }

    private static void p19() {
        CoatRings x = line(3, 1);
        facts(x, "a=b;b!a", 2);
        int[] by = {2, 6, 7}, inSome = {2, 4, 1};
        for (int p = 0; p < 3; p++) {
            due("by facts", x.may(p, 0), by[p]);
            due("in some world", x.may(p, 1), inSome[p]);
        }
        facts(x, "b=b", 1);
        for (int p = 0; p < 3; p++) due("in no world", x.may(p, 1), 0);
        due("may", x.may(3, 0), BAD);
        due("may", x.may(-1, 1), BAD);
        due("may", x.may(0, 2), BAD);
        due("may", x.may(0, -1), BAD);
    }

    private static void p20() {
        int[] all = {1, 1, 2, 6, 24, 120, 720};
        for (int n = 0; n <= 6; n++) due("worlds of " + n, line(n, 1).worlds(), all[n]);
        CoatRings x = with(line(4, 1), 1, 0, 3, 2);
        facts(x, "a!a;b!b;c!c;d!d", 4);
        due("nobody has his own", x.worlds(), 9);
        facts(x, "a=a", 1);
        due("worlds", x.worlds(), 0);
    }

    private static void p21() {
        CoatRings x = line(3, 1);
        due("sure", x.sure(0), NONE);
        facts(x, "a!a;a!b", 2);
        due("sure", x.sure(0), 2);
        due("sure", x.sure(1), NONE);
        facts(x, "b!a", 1);
        due("sure", x.sure(1), 1);
        due("sure", x.sure(2), 0);
        facts(x, "c!a", 1);
        due("no world", x.sure(0), NONE);
        due("sure", x.sure(3), BAD);
        due("sure", x.sure(-1), BAD);
    }

    private static void p22() {
        due("nobody", new CoatRings().next(0), NOT);
        due("BAD ahead of NOT", new CoatRings().next(2), BAD);
        CoatRings x = line(4, 1);
        due("who", x.next(0), 0);
        due("left", x.next(1), 6);
        facts(x, "a=b", 1);
        due("who", x.next(0), 1);
        due("left", x.next(1), 2);
        facts(x, "b!a;b!c", 2);
        // b has d; c has a or c, d the other.
        due("who", x.next(0), 2);
        due("left", x.next(1), 1);
        facts(x, "b!d", 1);
        due("no world", x.next(0), NONE);
        due("no world", x.next(1), NONE);
        due("next", x.next(-1), BAD);
    }

    private static void p23() {
        due("nobody", new CoatRings().explained(1, -1), NOT);
        due("BAD ahead of NOT", new CoatRings().explained(8, -1), BAD);
        CoatRings x = with(line(3, 1), 2, 0, 1);
        int[][] bad = {{0, 0}, {8, 0}, {-1, 0}, {1, -3}, {1, MIN}, {MAX, 0}};
        for (int[] b : bad) due("explained", x.explained(b[0], b[1]), BAD);
        // What is at 0, 1, 2 goes one place on.
        explained(x, 1, 3, 1, 2);
        explained(x, 2, 1, 36 + 2);
        explained(x, 4, 3, 72 + 1, 72 + 2);
        explained(x, 7, 1, 36 + 2);
        with(x, 1, 2, 0);
        explained(x, 1, 3, 1, 8);
        explained(x, 2, 2, 37, 44);
        with(x, 2, 1, 0);
        explained(x, 7, 2, 2);
        with(x, 0, 1, 2);
        explained(x, 7, 1);
        explained(line(1, 1), 7, 1);
    }

    private static void explained(CoatRings x, int kinds, int ways, int... first) {
        due("fewest by " + kinds, x.explained(kinds, -1), first.length);
        due("rows by " + kinds, x.explained(kinds, -2), ways);
        for (int k = 0; k < first.length; k++) due("number " + k + " by " + kinds, x.explained(kinds, k), first[k]);
        due("behind the last", x.explained(kinds, first.length), NONE);
        due("far behind the last", x.explained(kinds, MAX), NONE);
    }

    private static void p24() {
        CoatRings x = line(3, 1);
        int[][] bad = {{3, 0, 1}, {-1, 0, 1}, {0, 1, 1}, {0, 2, 1}, {0, 0, 3}, {0, -1, 1}, {0, 3, 4}, {0, 0, MAX}, {0, MIN, 1}};
        for (int[] b : bad) due("fear", x.fear(b[0], b[1], b[2]), BAD);
        for (int k = 0; k < 6; k++) due("fear", x.fear(k % 3, 0, 2), k);
        due("fear", x.fear(0, 0, 1), FULL);
        due("BAD ahead of FULL", x.fear(3, 0, 1), BAD);
        due("feared", x.count(7), 6);
    }

    private static void p25() {
        CoatRings x = new CoatRings();
        int[] at = {0, 1, 3, 7};
        for (int a : at) x.person(a, 0, 0);
        lay(x, 0, 1, 9, 3, 0, 2, 1);
        due("nothing is feared", x.harm(0, 0, 1, 1), BAD);
        x.fear(0, 0, 3);
        x.fear(1, 0, 2);
        x.fear(2, 0, 3);
        // The rail: 3 0 2 1, that is places 7 0 3 1.
        due("swap", x.harm(0, 0, 1, 1), 2 * 6);
        due("moved", x.harm(1, 0, 1, 1), 7 + 3 + 4);
        due("turned", x.harm(2, 0, 1, 1), 2 * 6 + 2 * 3);
        due("harm", x.harm(3, 0, 1, 1), BAD);
        due("harm", x.harm(-1, 0, 1, 1), BAD);
        due("harm", x.harm(0, 4, 1, 1), BAD);
        due("harm", x.harm(0, 0, 3, 1), BAD);
        due("BAD ahead of NULL", x.harm(3, 1, 1, 1), BAD);
        due("harm", x.harm(0, 1, 0, 9), NULL);
        due("harm", x.harm(0, 0, 0, 9), CAST);
        due("harm", x.harm(0, 0, 1, 2), INDEX);
        due("harm", x.harm(0, 0, 1, -1), INDEX);
        due("harm", x.harm(0, 0, 1, 0), NOT);
        x.item(0, 1, 1, 0);
        due("one twice", x.harm(0, 0, 1, 1), NOT);
    }

    private static void p26() {
        CoatRings x = new CoatRings();
        due("nobody", x.best(-1), NOT);
        due("no place", x.best(0), BAD);
        int[] at = {0, 10, 1};
        for (int a : at) x.person(a, 0, 0);
        due("nothing is feared", x.best(0), NOT);
        x.fear(0, 0, 2);
        best(x, 2, 2, 0, 1, 2);
        x.fear(0, 0, 1);
        // Who is first changes with both others: 2 is between them. 2 1 0 would be the like, behind.
        best(x, 18, 20, 2, 0, 1);
        x.fear(0, 0, 2);
        // Now 2 1 0 has the lesser sum.
        best(x, 18, 22, 2, 1, 0);
        due("one more comes", x.person(1, 0, 0), 3);
        // 2 and 3 are at one place: they are at 0 and 2, which are feared twice, 0 is between, 1 where nothing is feared.
        best(x, 2, 2, 2, 0, 3, 1);
        due("best", x.best(4), BAD);
        due("best", x.best(-3), BAD);
        due("best", x.best(MAX), BAD);
    }

    private static void best(CoatRings x, int greatest, int sum, int... order) {
        due("best(-1)", x.best(-1), greatest);
        due("best(-2)", x.best(-2), sum);
        for (int k = 0; k < order.length; k++) due("best(" + k + ")", x.best(k), order[k]);
    }

    private static void p27() {
        CoatRings x = line(4, 1);
        due("trade", x.trade(4), BAD);
        due("trade", x.trade(-1), BAD);
        // All like all: each points at who has coat 0, who keeps it; and so on.
        for (int p = 0; p < 4; p++) due("trade", x.trade(p), p);
        with(x, 1, 2, 3, 0);
        for (int p = 0; p < 4; p++) due("trade", x.trade(p), (p + 1) % 4);
        x.likes(3, 2, 6);
        x.likes(1, 1, 7);
        x.likes(1, 3, 8);
        // 3 (has 0) would have 2 (1 has it), 1 would have 3 (2 has it), 2 points at 3: a ring.
        int[] then = {1, 3, 0, 2};
        for (int p = 0; p < 4; p++) due("trade", x.trade(p), then[p]);
        x.wont(2, true);
        // 2 is gone with 3: 1 would have 1 (0 has it), 0 points at 3 (coat 0), 3 at 1 (coat 2): a ring.
        int[] without = {0, 1, 3, 2};
        for (int p = 0; p < 4; p++) due("trade", x.trade(p), without[p]);
    }

    private static void p28() {
        CoatRings x = with(line(4, 1), 1, 2, 3, 0);
        lay(x, 0, 2, 7, 1, 2, 3, 0);
        due("what all have, all liked alike", x.blocks(0, 2, 1), NONE);
        x.likes(3, 1, 6);
        x.likes(0, 0, 6);
        due("0 and 3 would change", x.blocks(0, 2, 1), 9);
        x.likes(1, 3, 6);
        x.likes(2, 2, 6);
        due("1 and 2 would, too: the lesser set", x.blocks(0, 2, 1), 6);
        x.wont(2, true);
        due("not with one who won't", x.blocks(0, 2, 1), 9);
        x.wont(3, true);
        due("nobody left", x.blocks(0, 2, 1), NONE);
        x.wont(3, false);
        lay(x, 1, 0, 2, 1, 3, 0);
        x.likes(0, 1, 6);
        due("one by himself", x.blocks(1, 0, 0), 1);
        CoatRings w = line(3, 1);
        lay(w, 0, 0, 0, 1, 2);
        for (int p = 0; p < 3; p++) w.likes(p, (p + 1) % 3, 6);
        due("all of them", w.blocks(0, 0, 0), 7);
        due("blocks", x.blocks(4, 0, 0), BAD);
        due("blocks", x.blocks(0, 3, 0), BAD);
        due("blocks", x.blocks(2, 0, 9), NULL);
        due("blocks", x.blocks(0, 1, 9), CAST);
        due("blocks", x.blocks(0, 2, 2), INDEX);
        due("blocks", x.blocks(0, 2, 0), NOT);
        CoatRings y = new CoatRings();
        y.sheet(0, 0, 0);
        due("nobody", y.blocks(0, 0, 0), NONE);
    }

    private static void p29and30() {
        CoatRings x = with(line(3, 2), 1, 0, 2);
        due("restore", x.restore(), NONE);
        x.inn(3, 3);
        x.fear(1, 0, 2);
        x.wont(2, true);
        x.likes(0, 1, 9);
        x.set(0, 7);
        x.set(1, 4);
        x.meet(1);
        facts(x, "a=b", 1);
        lay(x, 0, 0, 5, 6);
        type(x, "b");
        due("image", x.image(), 1);
        type(x, "=");
        x.item(0, 0, 0, 2);
        x.person(9, 9, 9);
        x.meet(1);
        x.inn(1, 1);
        x.fear(0, 0, 1);
        x.wont(2, false);
        x.likes(0, 1, 1);
        x.likes(3, 3, 8);
        x.marks(0, 33);
        x.set(0, 1);
        x.set(1, 2);
        x.forget();
        due("plan", x.plan(-1), 4);
        due("atOnce", x.atOnce(1), 4);
        due("best", x.best(-1) > 0 ? 1 : 0, 1);
        for (int times = 0; times < 2; times++) {
            due("restore", x.restore(), 1);
            int[] count = {3, 0, 0, 1, 1, 1, 4, 1};
            for (int w = 0; w < 8; w++) due("count " + w, x.count(w), count[w]);
            due("plan", x.plan(-1), 0);
            due("atOnce", x.atOnce(1), 0);
            due("best", x.best(-2), 8);
            due("told", x.told(0, 2), 1);
            due("told", x.told(2, 5), 1);
            due("told", x.told(3, 0), BAD);
            due("may", x.may(0, 0), 2);
            due("likes", x.likes(0, 1, 2), 9);
            due("rate", x.set(0, 3), 7);
            due("seats", x.set(1, 3), 4);
            due("person", x.person(1, 1, 1), 3);
            due("likes", x.likes(3, 3, 4), 5);
        }
        due("the tape is not of it", x.type('a', 1), 3);
        due("facts", x.facts(), 1);
        due("sheets are not of it", x.drop(0), 2);
        CoatRings y = line(1, 1);
        y.image();
        y.person(1, 1, 1);
        y.image();
        y.person(1, 1, 1);
        y.restore();
        due("the last image", y.count(0), 2);
        CoatRings z = new CoatRings();
        z.image();
        z.person(0, 0, 0);
        z.restore();
        due("an image of nobody", z.count(0), 0);
    }

    private static void p31() {
        CoatRings x = line(1, 1);
        int[][] bad = {{-1, 0, 1}, {4, 0, 1}, {0, -1, 1}, {0, 3, 1}, {0, 0, 25}, {0, 0, MAX}, {4, 0, -1}, {0, 3, -1}};
        for (int[] b : bad) due("sheet", x.sheet(b[0], b[1], b[2]), BAD);
        due("sheet", x.sheet(0, 0, -1), SIZE);
        due("sheet", x.sheet(0, 0, MIN), SIZE);
        due("nothing changed", x.drop(0), NULL);
        due("sheet", x.sheet(3, 2, 24), 24);
        due("item", x.item(3, 2, 23, 1), 1);
        due("sheet", x.sheet(3, 2, -1), SIZE);
        due("item", x.table(3, 2, 23), NOT);
        due("a new row", x.sheet(3, 2, 24), 24);
        due("0 at first", x.table(3, 2, 23), 0);
        due("sheet", x.sheet(3, 1, 0), 0);
        due("drop", x.drop(3), 0);
    }

    private static void p32() {
        CoatRings x = new CoatRings();
        due("drop", x.drop(4), BAD);
        due("drop", x.drop(-1), BAD);
        due("drop", x.drop(0), NULL);
        x.sheet(0, 0, 7);
        due("drop", x.drop(0), 7);
        due("drop", x.drop(0), NULL);
        due("item", x.item(0, 0, 0, 0), NULL);
    }

    private static void p33() {
        CoatRings x = line(1, 1);
        x.sheet(0, 0, 2);
        x.sheet(1, 1, 2);
        x.sheet(2, 2, 2);
        due("item", x.item(4, 0, 0, 0), BAD);
        due("item", x.item(0, 3, 0, 0), BAD);
        due("item", x.item(-1, 0, 0, 0), BAD);
        due("item", x.item(0, -1, 0, 0), BAD);
        due("item", x.item(3, 0, 9, 0), NULL);
        due("item", x.item(0, 1, 9, 0), CAST);
        due("item", x.item(2, 1, 0, 0), CAST);
        due("item", x.item(0, 0, 2, 0), INDEX);
        due("item", x.item(0, 0, -1, 0), INDEX);
        due("item", x.item(0, 0, MAX, 0), INDEX);
        int[] v = {256, 65536, MIN, 1, -256, 128};
        int[][] zero = {{0, 0, 0, NOT, 0, NOT}, {NOT, 0, 0, NOT, NOT, NOT}, {NOT, NOT, NOT, NOT, NOT, NOT}};
        for (int lane = 0; lane < 3; lane++) {
            for (int k = 0; k < v.length; k++) {
                due("item", x.item(lane, lane, 1, v[k]), 1);
                due("the lowest bits of " + v[k] + " in lane " + lane, x.table(lane, lane, 1), zero[lane][k]);
            }
        }
        due("the other stays", x.table(0, 0, 0), 0);
    }

    private static void p34() {
        CoatRings x = line(3, 1);
        lay(x, 0, 0, 0, 1, 2, 0);
        lay(x, 1, 0, 5, 5, 5);
        lay(x, 2, 1, 1, 1, 1);
        due("copy", x.copy(4, 0, 0, 0, 1), BAD);
        due("copy", x.copy(0, 0, -1, 0, 1), BAD);
        due("copy", x.copy(3, 0, 0, 0, 1), NULL);
        due("copy", x.copy(0, 9, 3, 0, 1), NULL);
        due("copy", x.copy(0, 9, 2, 0, -1), CAST);
        int[][] out = {{0, 0, 4}, {2, 0, 3}, {-1, 0, 1}, {0, -1, 1}, {0, 0, -1}, {5, 0, 0}, {0, 4, 0}, {MAX, 0, 1}, {1, 0, MAX}, {1, 1, MIN}};
        for (int[] o : out) due("copy", x.copy(0, o[0], 1, o[1], o[2]), INDEX);
        due("nothing changed", x.table(1, 0, 0), NOT);
        due("copy", x.copy(0, 4, 1, 3, 0), 0);
        due("copy", x.copy(0, 1, 1, 0, 3), 3);
        due("1 2 0", x.table(1, 0, 0), 3);
        due("told", x.told(0, 3), 1);
        due("on the same one, on", x.copy(0, 0, 0, 1, 3), 3);
        due("0 0 1 2", x.table(0, 0, 1), 0);
        due("on the same one, back", x.copy(0, 1, 0, 0, 3), 3);
        due("0 1 2 2", x.table(0, 0, 0), 0);
        due("the last stays", x.copy(0, 3, 1, 0, 1), 1);
        due("2 2 0", x.table(1, 0, 0), NOT);
    }

    public static void main(String[] args) {
        Runnable[] all = {PromisesTest::p1, PromisesTest::p2, PromisesTest::p3, PromisesTest::p4, PromisesTest::p5,
            PromisesTest::p6, PromisesTest::p7, PromisesTest::p8, PromisesTest::p9, PromisesTest::p10, PromisesTest::p11,
            PromisesTest::p12, PromisesTest::p13, PromisesTest::p14, PromisesTest::p15, PromisesTest::p16, PromisesTest::p17,
            PromisesTest::p18, PromisesTest::p19, PromisesTest::p20, PromisesTest::p21, PromisesTest::p22, PromisesTest::p23,
            PromisesTest::p24, PromisesTest::p25, PromisesTest::p26, PromisesTest::p27, PromisesTest::p28,
            PromisesTest::p29and30, PromisesTest::p29and30, PromisesTest::p31, PromisesTest::p32, PromisesTest::p33,
            PromisesTest::p34};
        for (int k = 0; k < all.length; k++) {
            of("promise " + (k + 1));
            all[k].run();
        }
        end();
    }
}
