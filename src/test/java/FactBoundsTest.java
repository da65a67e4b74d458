/** The boundary cases that the document names of what may be: promises 16 to 22. */
public final class FactBoundsTest extends Calls {
    static void all() {
        typeBytes();
        typeFull();
        clauses();
        signs();
        faults();
        facts();
        comes();
        forget();
        may();
        worlds();
        sure();
        next();
    }

    // ---- the tape

    private static void typeBytes() {
        says(16, "The n lowest bytes (1 .. 8) of w, of these the highest first, come behind THE TAPE: how many it has.");
        CoatRings x = line(3, 1);
        due("the highest first", x.type(0x613d62L, 3), 3);
        due("behind", x.type(0x3b623dL, 3), 6);
        due("one", x.type(0x63L, 1), 7);
        due("a=b;b=c", x.facts(), 2);
        due("has b's", x.may(0, 0), 2);
        due("has c's", x.may(1, 0), 4);
        for (int n = 1; n <= 8; n++) {
            due("n " + n, new CoatRings().type(0x6162636465666768L, n), n);
            // Bytes above the n lowest count for nothing, whatever they are.
            if (n < 8) due("n " + n, new CoatRings().type(-1L << 8 * n | 0x6162636465666768L & ~(-1L << 8 * n), n), n);
        }
        CoatRings eight = line(2, 1);
        due("a=b;b!b ", eight.type(0x613d623b62216220L, 8), 8);
        due("all eight of them", eight.facts(), 2);
        due("the first", eight.may(0, 0), 2);
        due("the second", eight.may(1, 0), 1);

        says(16, "BAD: n, a byte not 32 .. 126;");
        for (int n : outside(1, 8)) refused("type(.., " + n + ")", y -> y.type(0x6161616161616161L, n), BAD);
        for (int place = 0; place < 8; place++) {
            for (int b = 0; b < 256; b++) {
                long w = 0x6161616161616161L & ~(255L << 8 * place) | (long) b << 8 * place;
                boolean stands = b >= 32 && b <= 126;
                due("byte " + b + " at " + place, new CoatRings().type(w, 8), stands ? 8 : BAD);
                due("byte " + b + " at the top", new CoatRings().type(w, place + 1), stands ? place + 1 : BAD);
                if (place > 0) due("byte " + b + " above", new CoatRings().type(w, place), place);
            }
        }
        for (long w : new long[] {31, 127, 0x1f61L, 0x7f61L, 0x611fL, -1, Long.MIN_VALUE, 0}) {
            refused("type(" + w + ", 8)", y -> y.type(w, 8), BAD);
            refused("type(" + w + ", 2)", y -> y.type(w, 2), BAD);
        }
    }

    private static void typeFull() {
        says(16, "FULL: 100.");
        for (int n = 1; n <= 8; n++) {
            CoatRings x = new CoatRings();
            int so = 0;
            for (; so + n <= 100; so += n) due("type", x.type(0x2020202020202020L, n), so + n);
            due("no room for " + n + " behind " + so, x.type(0x2020202020202020L, n), FULL);
            for (; so < 100; so++) due("room for one", x.type(0x20, 1), so + 1);
            due("full", x.type(0x20, 1), FULL);
            due("all of it is read", x.facts(), -120);
            due("empty then", x.type(0x2020202020202020L, 8), 8);
        }
        for (int n = 4; n <= 8; n++) {
            int many = n;
            refused(Calls::full, "behind 97, " + n, x -> x.type(0x6161616161616161L, many), FULL);
        }
        due("behind 97, 3", full().type(0x6161616161616161L, 3), 100);
        CoatRings last = line(2, 1);
        for (int k = 0; k < 97; k++) last.type(32, 1);
        due("behind 97, 3", last.type(0x613d62L, 3), 100);
        due("the last bytes of 100", last.facts(), 1);
        due("hold", last.may(0, 0), 2);
    }

    // ---- facts

    private static String clauses(int many) {
        StringBuilder text = new StringBuilder();
        for (int k = 0; k < many; k++) text.append(k == 0 ? "" : ";").append("a!a");
        return text.toString();
    }

    private static void clauses() {
        says(0, "FACTS are a TEXT: 1 to 12 CLAUSES with ; between:");
        facts(line(1, 1), "", -20);
        for (int k = 1; k <= 12; k++) {
            CoatRings x = line(2, 1);
            facts(x, clauses(k), k);
            due("hold", x.may(0, 0), 2);
            facts(x, clauses(k) + ";b=a", k < 12 ? k + 1 : -20 - 47);
            facts(x, clauses(k) + ";", k < 12 ? -20 - 4 * k : -20 - 47);
            facts(x, ";" + clauses(k), -20);
            facts(x, clauses(k) + "a!a", -20 - (4 * k - 1));
        }
        says(0, "a thirteenth CLAUSE's ; can't.");
        CoatRings x = line(2, 1);
        for (int k = 13; k <= 25; k++) facts(x, clauses(k), -20 - 47);
        due("nothing holds", x.may(0, 0), 3);
        facts(x, clauses(12) + "  ;", -20 - 49);
        facts(x, clauses(12) + "  ", 12);
        facts(x, clauses(12) + " a", -20 - 48);
        says(17, "how many CLAUSES.");
        facts(x, "a=a", 1);
        facts(x, "a=a;a=a", 2);
        facts(x, "a=a;b=b;a-2", 3);
    }

    /** Each sign 32 .. 126 at each place of a clause, by how many people there are. */
    private static void signs() {
        says(0, "a PERSON (a .. f, that there is), then");
        for (int people = 0; people <= 6; people++) {
            for (char b = 32; b <= 126; b++) {
                facts(line(people, 1), b + "=a", b >= 'a' && b < 'a' + people ? 1 : b == ' ' ? -21 : -20);
            }
        }
        says(0, "= or ! and a PERSON (that there is, too) (he has that one's COAT, has it not),");
        for (int people = 1; people <= 6; people++) {
            for (char b = 32; b <= 126; b++) {
                boolean is = b >= 'a' && b < 'a' + people;
                facts(line(people, 1), "a=" + b, is ? 1 : b == ' ' ? -23 : -22);
                facts(line(people, 1), "a!" + b, is ? 1 : b == ' ' ? -23 : -22);
            }
        }
        CoatRings six = line(6, 1);
        facts(six, "a=f;f=a;b!f;c!b", 4);
        int[] may = {32, 31, 61, 63, 63, 1};
        for (int p = 0; p < 6; p++) due("may(" + p + ", 0)", six.may(p, 0), may[p]);

        says(0, "or + or - and a digit 1 .. 6 (what he has has that MARK (bit 0: 1), has it not; by MARKS as they are now).");
        for (char b = 32; b <= 126; b++) {
            boolean digit = b >= '1' && b <= '6';
            facts(line(6, 1), "a+" + b, digit ? 1 : b == ' ' ? -23 : -22);
            facts(line(6, 1), "f-" + b, digit ? 1 : b == ' ' ? -23 : -22);
            facts(line(1, 1), "a" + b + "a", b == '=' || b == '!' ? 1 : b == '+' || b == '-' || b == ' ' ? -22 : -21);
            facts(line(1, 1), "a" + b + "1", b == '+' || b == '-' ? 1 : b == '=' || b == '!' || b == ' ' ? -22 : -21);
            facts(line(1, 1), "a=a" + b, b == ' ' ? 1 : b == ';' ? -24 : -23);
            facts(line(1, 1), "a+1" + b, b == ' ' ? 1 : b == ';' ? -24 : -23);
        }
        for (int mark = 1; mark <= 6; mark++) {
            CoatRings x = line(6, 1);
            facts(x, "a+" + mark, 1);
            due("the one that has mark " + mark, x.may(0, 0), 1 << mark - 1);
            facts(x, "b-" + mark, 1);
            due("those that have not mark " + mark, x.may(1, 0), 63 & ~(1 << mark - 1));
            x.marks(mark - 1, 0);
            due("by marks as they were", x.may(0, 0), 1 << mark - 1);
            facts(x, "c+" + mark, 1);
            due("no coat has it now", x.may(2, 0), 0);
            facts(x, "d-" + mark, 1);
            due("all have it not now", x.may(3, 0), 63);
            for (int c = 0; c < 6; c++) x.marks(c, 63);
            facts(x, "e+" + mark, 1);
            due("all have it now", x.may(4, 0), 63);
            facts(x, "f-" + mark, 1);
            due("none has it not now", x.may(5, 0), 0);
        }
    }

    private static void faults() {
        says(0, "FAULTS: -20 less the place of the first byte (behind blanks) that can't stand there (the end: how many bytes there are);");
        String[] texts = {"", " ", "        ", "a", "a ", " a", "a=", "a= ", "a =", "a=b;", "a=b; ", "a=b ;  ", "a+", "a+ ", "a-1;b"};
        for (String text : texts) facts(line(2, 1), text, -20 - text.length());
        CoatRings x = line(2, 1);
        facts(x, "?", -20);
        facts(x, "  ?", -22);
        facts(x, "a  ?", -23);
        facts(x, "a=  ?", -24);
        facts(x, "a=b  ?", -25);
        facts(x, "a=b;  ?", -26);
        facts(x, "a?c?", -21);
        facts(x, "c=b;?", -20);
        facts(x, "a=b;c=b", -24);
        facts(x, "a=b;b=c", -26);
        facts(x, "a=bb=a", -23);
        facts(x, "aa", -21);
        facts(x, "a==b", -22);
        facts(x, "a=-1", -22);
        facts(x, "a+12", -23);
        StringBuilder late = new StringBuilder("a=b");
        while (late.length() < 99) late.append(' ');
        facts(x, late + "b", -119);
        facts(x, late + ";", -120);

        says(0, "bytes 32 count for nothing;");
        CoatRings y = line(2, 1);
        facts(y, "  a  =  b  ;  b  !  b  ", 2);
        due("may", y.may(0, 0), 2);
        due("may", y.may(1, 0), 1);

        says(17, "A FAULT (nothing holds more).");
        CoatRings z = line(3, 1);
        facts(z, "a!a", 1);
        String[] wrong = {"a=b;", "a=b;b=c;c", "a=b;b=d", "b=a;c=b;a=?", clauses(12).replace("a!a", "b!a") + ";c=a"};
        for (String text : wrong) {
            type(z, text);
            due("facts of '" + text + "' are a fault", z.facts() <= -20 ? 1 : 0, 1);
            due("no clause of it holds", z.may(0, 0), 6);
            due("no clause of it holds", z.may(1, 0), 7);
            due("no clause of it holds", z.may(2, 0), 7);
        }
    }

    private static void facts() {
        says(17, "THE TAPE, which is empty then, is FACTS that hold, too:");
        CoatRings x = line(3, 1);
        facts(x, "a!a", 1);
        due("empty then", x.type('a', 1), 1);
        due("a fault", x.facts(), -21);
        due("empty then, too", x.type('a', 1), 1);
        due("facts", x.facts(), -21);
        due("an empty one", x.facts(), -20);
        facts(x, "a!b", 1);
        due("and what was told holds, too", x.may(0, 0), 4);
        facts(x, "a=a", 1);
        due("against what was told", x.may(0, 0), 0);
        facts(x, "a=a;a!a", 2);
        due("none is left", x.may(0, 0), 0);
        facts(x, "b=c", 1);
        due("of another", x.may(1, 0), 4);
    }

    private static void comes() {
        says(0, "WHAT MAY BE is told by PERSONS: which COATS each may have (all at first; of one that comes all, "
            + "and his COAT may be anybody's).");
        CoatRings x = new CoatRings();
        for (int k = 0; k < 6; k++) {
            due("person", x.person(0, 0, 0), k);
            for (int p = 0; p <= k; p++) {
                due("may(" + p + ", 0)", x.may(p, 0), p == 0 && k > 1 ? (2 << k) - 1 & ~2 : p == 1 && k > 1 ? (2 << k) - 4 : (2 << k) - 1);
            }
            if (k == 1) facts(x, "a=a;b!a;b!b", 3);
        }
        CoatRings y = line(2, 1);
        facts(y, "a=b;b=b;b!b", 3);
        due("a", y.may(0, 0), 2);
        due("b may have none", y.may(1, 0), 0);
        due("no world", y.worlds(), 0);
        due("one that comes", y.person(0, 0, 0), 2);
        due("a, or the new one's", y.may(0, 0), 6);
        due("b has the new one's", y.may(1, 0), 4);
        due("he may have all", y.may(2, 0), 7);
        due("one world", y.worlds(), 1);
    }

    private static void forget() {
        says(18, "Nothing is told any more (all may have all): how many PEOPLE there are.");
        for (int n = 0; n <= 6; n++) {
            CoatRings x = line(n, 1);
            for (int p = 0; p < n; p++) facts(x, (char) ('a' + p) + "=a", 1);
            due("forget", x.forget(), n);
            for (int p = 0; p < n; p++) due("may(" + p + ", 0)", x.may(p, 0), (1 << n) - 1);
            due("forget again", x.forget(), n);
        }
        CoatRings y = line(2, 1);
        facts(y, "a=b", 1);
        type(y, "a!b");
        due("forget", y.forget(), 2);
        due("not what is on the tape", y.facts(), 1);
        due("a", y.may(0, 0), 1);
    }

    private static void may() {
        says(19, "COATS that a PERSON may have by FACTS alone (0), in some WORLD (1).");
        CoatRings x = line(6, 1);
        for (int p = 0; p < 6; p++) for (int w = 0; w < 2; w++) due("all at first", x.may(p, w), 63);
        facts(x, "a=f", 1);
        due("by facts", x.may(5, 0), 63);
        due("in some world", x.may(5, 1), 31);
        facts(x, "f=f", 1);
        for (int p = 0; p < 6; p++) due("in no world", x.may(p, 1), 0);
        due("by facts", x.may(1, 0), 63);
        CoatRings one = line(1, 1);
        due("one", one.may(0, 0), 1);
        due("one", one.may(0, 1), 1);
        facts(one, "a!a", 1);
        due("by facts", one.may(0, 0), 0);
        due("in no world", one.may(0, 1), 0);

        says(19, "BAD.");
        for (int p : outside(0, 4)) for (int w = 0; w < 2; w++) {
            int what = w;
            refused("may(" + p + ", " + w + ")", y -> y.may(p, what), BAD);
        }
        for (int w : outside(0, 1)) refused("may(0, " + w + ")", y -> y.may(0, w), BAD);
        for (int p : outside(0, 5)) due("of six", x.may(p, 0), BAD);
    }

    private static void worlds() {
        says(0, "WORLDS are all TABLES by which each has what he may have (THE TABLE does not matter).");
        CoatRings x = with(line(3, 1), 1, 2, 0);
        due("all", x.worlds(), 6);
        facts(x, "a=a", 1);
        due("against the table", x.worlds(), 2);
        due("b and c", x.may(1, 1), 6);

        says(20, "How many WORLDS there are (nobody is there: 1).");
        int[] all = {1, 1, 2, 6, 24, 120, 720};
        for (int n = 0; n <= 6; n++) due("of " + n, line(n, 1).worlds(), all[n]);
        int[] none = {1, 0, 1, 2, 9, 44, 265};
        for (int n = 1; n <= 6; n++) {
            CoatRings y = line(n, 1);
            for (int p = 0; p < n; p++) facts(y, (char) ('a' + p) + "!" + (char) ('a' + p), 1);
            due("of " + n + " nobody has his own", y.worlds(), none[n]);
        }
        CoatRings z = line(6, 1);
        for (int p = 0; p < 6; p++) facts(z, (char) ('a' + p) + "=" + (char) ('f' - p), 1);
        due("one", z.worlds(), 1);
        facts(z, "f=f", 1);
        due("none", z.worlds(), 0);
    }

    private static void sure() {
        says(0, "SURE of a PERSON is a COAT that he has in all of them.");
        says(21, "SURE of a PERSON.");
        due("one alone", line(1, 1).sure(0), 0);
        CoatRings x = line(6, 1);
        facts(x, "f!a;f!b;f!c;f!d;f!e", 5);
        due("the one that is left", x.sure(5), 5);
        facts(x, "a=e;b=d;c=b;d!a", 4);
        int[] sure = {4, 3, 1, 2, 0, 5};
        for (int p = 0; p < 6; p++) due("sure(" + p + ")", x.sure(p), sure[p]);

        says(21, "BAD; NONE.");
        for (int p : outside(0, 4)) refused("sure(" + p + ")", y -> y.sure(p), BAD);
        for (int p : outside(0, 5)) due("of six", x.sure(p), BAD);
        CoatRings y = line(3, 1);
        for (int p = 0; p < 3; p++) due("nothing is told", y.sure(p), NONE);
        facts(y, "a=b", 1);
        due("two may be", y.sure(1), NONE);
        facts(y, "b=b", 1);
        for (int p = 0; p < 3; p++) due("no world", y.sure(p), NONE);
    }

    private static void next() {
        says(0, "NEXT: to be asked: by whose answer the fewest WORLDS are left at worst, of like ones the first.");
        says(22, "NEXT: who (0), WORLDS left at worst (1).");
        asked(line(1, 1), 0, 1);
        asked(line(2, 1), 0, 1);
        asked(line(6, 1), 0, 120);
        CoatRings x = line(3, 1);
        facts(x, "a=a", 1);
        asked(x, 1, 1);
        facts(x, "b=b", 1);
        asked(x, 0, 1);
        CoatRings y = line(4, 1);
        facts(y, "a!c;a!d;b!b;d=d", 4);
        // acbd, bacd, bcad: by a's or b's answer two may be left, by c's one, by d's all three.
        due("three worlds", y.worlds(), 3);
        asked(y, 2, 1);
        CoatRings last = line(4, 1);
        facts(last, "a!d;b!d;c!d;a=a", 4);
        // d has his, a his: of b and c the first.
        asked(last, 1, 1);

        says(22, "BAD; NOT: nobody is there; NONE: no WORLD.");
        for (int w : outside(0, 1)) refused("next(" + w + ")", z -> z.next(w), BAD);
        for (int w : outside(0, 1)) due("nobody, next(" + w + ")", new CoatRings().next(w), BAD);
        refused(CoatRings::new, "nobody", z -> z.next(0), NOT);
        refused(CoatRings::new, "nobody", z -> z.next(1), NOT);
        facts(last, "b=a", 1);
        due("no world", last.next(0), NONE);
        due("no world", last.next(1), NONE);
        due("forget", last.forget(), 4);
        asked(last, 0, 6);
    }

    private static void asked(CoatRings x, int who, int left) {
        due("next(0)", x.next(0), who);
        due("next(1)", x.next(1), left);
    }

    public static void main(String[] args) {
        all();
        end();
    }
}
