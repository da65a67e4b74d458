import java.util.Arrays;

/** Coats given back wrong: who has whose, how they come home, what may be, what slipped, what trades hold. */
public final class CoatRings {
    public static final int BAD = -1, NOT = -2, FULL = -3, NONE = -4, NULL = -11, CAST = -12, INDEX = -13, SIZE = -14;

    private static final int MOST_PEOPLE = 6, MOST_INNS = 4, MOST_FEARS = 6;
    private static final int PLACES = 20, MARK_SETS = 64, MOST_LIKED = 9, LIKED_AT_FIRST = 5;
    private static final int SETS = 64, TABLES = 720, MATCHINGS = 76;
    private static final int TAPE_SIGNS = 100, MOST_CLAUSES = 12, FAULT = -20, END = -1;
    private static final int MOST_SHEETS = 4, LANES = 3, MOST_ITEMS = 24, EMPTY = -1;
    private static final int SLIP_KINDS = 3, ALL_KINDS = 7, MOST_SLIPS = 45;
    /** Above all sums of miles. */
    private static final int UNKNOWN = 0x7fffffff;

    private final Night night = new Night();
    private final Night kept = new Night();
    private boolean isKept;
    private final Tape tape = new Tape();
    private final Sheets sheets = new Sheets();
    private final int[] taken = new int[MOST_PEOPLE];
    private final Givings givings = new Givings();
    private final Planner planner = new Planner();
    private final Days days = new Days();
    private final Rail rail = new Rail();
    private final Slips[] slips = new Slips[ALL_KINDS + 1];
    private final int[] slipQueue = new int[TABLES];

    public CoatRings() {
    }

    // ---- 1 people, the table

    public int person(int x, int y, int marks) {
        if (!isPlace(x, y) || !isMarks(marks)) {
            return BAD;
        }
        if (night.people >= MOST_PEOPLE) {
            return FULL;
        }
        night.comes(x, y, marks);
        changed();
        return night.people - 1;
    }

    public int told(int person, int what) {
        if (!night.isPerson(person)) {
            return BAD;
        }
        int ring = Rows.ring(night.table, person);
        switch (what) {
            case 0: return night.x[person];
            case 1: return night.y[person];
            case 2: return night.marks[person];
            case 3: return Rows.at(night.table, person);
            case 4: return Rows.placeOf(night.table, person);
            case 5: return (night.wont >> person) & 1;
            case 6: return Integer.numberOfTrailingZeros(ring);
            case 7: return Integer.bitCount(ring);
            default: return BAD;
        }
    }

    public int marks(int coat, int v) {
        if (!night.isPerson(coat) || !isMarks(v)) {
            return BAD;
        }
        int before = night.marks[coat];
        night.marks[coat] = v;
        return before;
    }

    public int likes(int person, int coat, int v) {
        if (!night.isPerson(person) || !night.isPerson(coat) || v < 0 || v > MOST_LIKED) {
            return BAD;
        }
        int before = night.liking(person, coat);
        night.likes[person * MOST_PEOPLE + coat] = v;
        return before;
    }

    public int wont(int person, boolean is) {
        if (!night.isPerson(person)) {
            return BAD;
        }
        int before = (night.wont >> person) & 1;
        night.wont = is ? night.wont | 1 << person : night.wont & ~(1 << person);
        changed();
        return before;
    }

    public int table(int sheet, int lane, int i) {
        int fault = take(sheet, lane, i);
        if (fault < 0) {
            return fault;
        }
        night.table = Rows.packed(taken, night.people);
        changed();
        return night.astray();
    }

    public int inn(int x, int y) {
        if (!isPlace(x, y)) {
            return BAD;
        }
        if (night.inns >= MOST_INNS) {
            return FULL;
        }
        night.innX[night.inns] = x;
        night.innY[night.inns] = y;
        night.inns++;
        changed();
        return night.inns - 1;
    }

    public int set(int what, int v) {
        if (what == 0 && v >= 1 && v <= 9) {
            int before = night.rate;
            night.rate = v;
            changed();
            return before;
        }
        if (what == 1 && v >= 2 && v <= 4) {
            int before = night.seats;
            night.seats = v;
            changed();
            return before;
        }
        return BAD;
    }

    public int count(int what) {
        switch (what) {
            case 0: return night.people;
            case 1: return night.astray();
            case 2: return night.rings();
            case 3: return night.greatestRing();
            case 4: return night.inns;
            case 5: return night.meetings;
            case 6: return night.miles;
            case 7: return night.feared;
            default: return BAD;
        }
    }

    // ---- 2 meetings

    public int meet(int number) {
        int there = Meetings.there(night, number);
        if (there == 0) {
            return BAD;
        }
        if ((there & night.wont) != 0) {
            return NOT;
        }
        int miles = Meetings.milesOf(night, number, there);
        night.table = Meetings.after(night.table, number, there);
        night.meetings++;
        night.miles += miles;
        changed();
        return miles;
    }

    public int well() {
        return Rows.areOwn(night.table, night.bound()) ? 1 : 0;
    }

    public int fewest() {
        return night.pairsToWell();
    }

    public int plan(int i) {
        if (i < -2) {
            return BAD;
        }
        if (!planner.known) {
            planner.reckon(night);
        }
        if (i == -1) {
            return planner.miles;
        }
        if (i == -2) {
            return planner.meetings;
        }
        return i < planner.meetings ? planner.steps[i] : NONE;
    }

    public int atOnce(int what) {
        if (what != 0 && what != 1) {
            return BAD;
        }
        if (!days.known) {
            days.reckon(night);
        }
        return what == 0 ? days.days : days.miles;
    }

    // ---- 3 what may be

    public int type(long w, int n) {
        if (n < 1 || n > 8) {
            return BAD;
        }
        for (int k = 0; k < n; k++) {
            if (!Tape.isSign(byteOf(w, k))) {
                return BAD;
            }
        }
        if (n > tape.room()) {
            return FULL;
        }
        for (int k = n - 1; k >= 0; k--) {
            tape.put(byteOf(w, k));
        }
        return tape.length;
    }

    public int facts() {
        return tape.read(night);
    }

    public int forget() {
        Arrays.fill(night.may, SETS - 1);
        return night.people;
    }

    public int may(int person, int what) {
        if (!night.isPerson(person) || (what != 0 && what != 1)) {
            return BAD;
        }
        return what == 0 ? night.may[person] & night.all() : givings.possible(night, person);
    }

    public int worlds() {
        return givings.worldsOf(night);
    }

    public int sure(int person) {
        if (!night.isPerson(person)) {
            return BAD;
        }
        int coats = givings.possible(night, person);
        return Integer.bitCount(coats) == 1 ? Integer.numberOfTrailingZeros(coats) : NONE;
    }

    public int next(int what) {
        if (what != 0 && what != 1) {
            return BAD;
        }
        if (night.people == 0) {
            return NOT;
        }
        if (givings.worldsOf(night) == 0) {
            return NONE;
        }
        int who = 0;
        int least = givings.leftAtWorst(night, 0);
        for (int p = 1; p < night.people; p++) {
            int left = givings.leftAtWorst(night, p);
            if (left < least) {
                least = left;
                who = p;
            }
        }
        return what == 0 ? who : least;
    }

    // ---- 4 slips

    public int explained(int kinds, int what) {
        if (kinds < 1 || kinds > ALL_KINDS || what < -2) {
            return BAD;
        }
        if (night.people == 0) {
            return NOT;
        }
        Slips told = slipsOf(kinds);
        if (what == -1) {
            return told.fewestTo(night.table);
        }
        if (what == -2) {
            return told.waysTo(night.table);
        }
        return what < told.fewestTo(night.table) ? told.firstWayAt(night.table, what) : NONE;
    }

    public int fear(int kind, int i, int j) {
        if (kind < 0 || kind >= SLIP_KINDS || i < 0 || i >= j || j >= night.people) {
            return BAD;
        }
        if (night.feared >= MOST_FEARS) {
            return FULL;
        }
        night.fears[night.feared] = Slips.number(kind, i, j);
        night.feared++;
        changed();
        return night.feared - 1;
    }

    public int harm(int slip, int sheet, int lane, int i) {
        if (slip < 0 || slip >= night.feared) {
            return BAD;
        }
        int fault = take(sheet, lane, i);
        return fault < 0 ? fault : Slips.harmOf(night, Slips.targetsOf(night.fears[slip]), taken);
    }

    public int best(int k) {
        if (k < -2 || k >= night.people) {
            return BAD;
        }
        if (night.people == 0 || night.feared == 0) {
            return NOT;
        }
        if (!rail.known) {
            rail.reckon(night);
        }
        if (k == -1) {
            return rail.greatest;
        }
        return k == -2 ? rail.sum : rail.order[k];
    }

    // ---- 5 trades

    public int trade(int person) {
        return night.isPerson(person) ? tradedCoat(person) : BAD;
    }

    public int blocks(int sheet, int lane, int i) {
        int fault = take(sheet, lane, i);
        if (fault < 0) {
            return fault;
        }
        for (int set = 1; set <= night.all(); set++) {
            if ((set & night.wont) == 0 && givings.couldDoBetter(night, set, taken)) {
                return set;
            }
        }
        return NONE;
    }

    public int image() {
        kept.become(night);
        isKept = true;
        return 1;
    }

    public int restore() {
        if (!isKept) {
            return NONE;
        }
        night.become(kept);
        changed();
        return 1;
    }

    // ---- 6 sheets

    public int sheet(int sheet, int lane, int n) {
        if (!Sheets.isSheet(sheet) || !Sheets.isLane(lane) || n > MOST_ITEMS) {
            return BAD;
        }
        if (n < 0) {
            return SIZE;
        }
        sheets.lay(sheet, lane, n);
        return n;
    }

    public int drop(int sheet) {
        if (!Sheets.isSheet(sheet)) {
            return BAD;
        }
        if (sheets.lanes[sheet] == EMPTY) {
            return NULL;
        }
        sheets.lanes[sheet] = EMPTY;
        return sheets.sizes[sheet];
    }

    public int item(int sheet, int lane, int i, int v) {
        int fault = sheets.faultOf(sheet, lane, i, 1);
        if (fault < 0) {
            return fault;
        }
        sheets.items[sheet][i] = Sheets.narrowed(lane, v);
        return 1;
    }

    public int copy(int from, int i, int to, int j, int n) {
        if (!Sheets.isSheet(from) || !Sheets.isSheet(to)) {
            return BAD;
        }
        int lane = sheets.lanes[from];
        if (lane == EMPTY || sheets.lanes[to] == EMPTY) {
            return NULL;
        }
        if (lane != sheets.lanes[to]) {
            return CAST;
        }
        if (!sheets.holds(from, i, n) || !sheets.holds(to, j, n)) {
            return INDEX;
        }
        System.arraycopy(sheets.items[from], i, sheets.items[to], j, n);
        return n;
    }

    // ---- what several calls need

    private static boolean isPlace(int x, int y) {
        return x >= 0 && x < PLACES && y >= 0 && y < PLACES;
    }

    private static boolean isMarks(int marks) {
        return marks >= 0 && marks < MARK_SETS;
    }

    private static int byteOf(long w, int k) {
        return (int) (w >> (8 * k)) & 255;
    }

    /** What was reckoned from the night is stale, so that the next call that asks for it reckons anew. */
    private void changed() {
        planner.known = false;
        days.known = false;
        rail.known = false;
    }

    /** Takes an item a person from a sheet: all of them different people, or else it is NOT what was asked for. */
    private int take(int sheet, int lane, int i) {
        int fault = sheets.faultOf(sheet, lane, i, night.people);
        if (fault < 0) {
            return fault;
        }
        System.arraycopy(sheets.items[sheet], i, taken, 0, night.people);
        int seen = 0;
        for (int k = 0; k < night.people; k++) {
            if (!night.isPerson(taken[k])) {
                return NOT;
            }
            seen |= 1 << taken[k];
        }
        return seen == night.all() ? 0 : NOT;
    }

    /** What is known of slips is large: made when first asked for, and filled anew only for another number of people. */
    private Slips slipsOf(int kinds) {
        Slips told = slips[kinds];
        if (told == null) {
            told = new Slips(kinds);
            slips[kinds] = told;
        }
        if (told.people != night.people) {
            told.fill(night.people, slipQueue);
        }
        return told;
    }

    private int tradedCoat(int person) {
        int still = night.all() & ~night.wont;
        for (int round = 0; round < MOST_PEOPLE && (still >> person & 1) != 0; round++) {
            int points = pointedAt(still);
            int going = inRings(points, still);
            if ((going >> person & 1) != 0) {
                return Rows.at(night.table, Rows.at(points, person));
            }
            still &= ~going;
        }
        return Rows.at(night.table, person);
    }

    /** A row that tells whom each still there points at; others point at themselves. */
    private int pointedAt(int still) {
        int points = Rows.OWN;
        for (int p = 0; p < night.people; p++) {
            if ((still >> p & 1) != 0) {
                points = Rows.with(points, p, hasMostLiked(p, still));
            }
        }
        return points;
    }

    private int hasMostLiked(int person, int still) {
        int most = -1;
        int who = person;
        for (int coat = 0; coat < night.people; coat++) {
            int holder = Rows.placeOf(night.table, coat);
            if ((still >> holder & 1) != 0 && night.liking(person, coat) > most) {
                most = night.liking(person, coat);
                who = holder;
            }
        }
        return who;
    }

    /** Several may point at one, so a way along what is pointed at need not come back to where it began. */
    private static int inRings(int points, int still) {
        int set = 0;
        for (int p = 0; p < MOST_PEOPLE; p++) {
            int at = p;
            for (int k = 0; k < MOST_PEOPLE && (still >> p & 1) != 0; k++) {
                at = Rows.at(points, at);
                if (at == p) {
                    set |= 1 << p;
                    break;
                }
            }
        }
        return set;
    }

    /** All that an image keeps. */
    private static final class Night {
        int people;
        final int[] x = new int[MOST_PEOPLE];
        final int[] y = new int[MOST_PEOPLE];
        final int[] marks = new int[MOST_PEOPLE];
        final int[] likes = new int[MOST_PEOPLE * MOST_PEOPLE];
        /** Coats by what was told; bits of people who are not there stand for nothing. */
        final int[] may = new int[MOST_PEOPLE];
        /** A row of six: those who are not there have their own. */
        int table = Rows.OWN;
        int wont;
        int inns;
        final int[] innX = new int[MOST_INNS];
        final int[] innY = new int[MOST_INNS];
        int rate = 2;
        int seats = 3;
        int meetings;
        int miles;
        int feared;
        final int[] fears = new int[MOST_FEARS];

        Night() {
            Arrays.fill(likes, LIKED_AT_FIRST);
            Arrays.fill(may, SETS - 1);
        }

        void become(Night other) {
            people = other.people;
            System.arraycopy(other.x, 0, x, 0, MOST_PEOPLE);
            System.arraycopy(other.y, 0, y, 0, MOST_PEOPLE);
            System.arraycopy(other.marks, 0, marks, 0, MOST_PEOPLE);
            System.arraycopy(other.likes, 0, likes, 0, MOST_PEOPLE * MOST_PEOPLE);
            System.arraycopy(other.may, 0, may, 0, MOST_PEOPLE);
            table = other.table;
            wont = other.wont;
            inns = other.inns;
            System.arraycopy(other.innX, 0, innX, 0, MOST_INNS);
            System.arraycopy(other.innY, 0, innY, 0, MOST_INNS);
            rate = other.rate;
            seats = other.seats;
            meetings = other.meetings;
            miles = other.miles;
            feared = other.feared;
            System.arraycopy(other.fears, 0, fears, 0, MOST_FEARS);
        }

        /** The caller has seen that there is room. */
        void comes(int atX, int atY, int coatMarks) {
            x[people] = atX;
            y[people] = atY;
            marks[people] = coatMarks;
            may[people] = SETS - 1;
            // Facts told earlier had no say on this coat, so they must not rule it out.
            for (int p = 0; p < people; p++) {
                may[p] |= 1 << people;
            }
            people++;
        }

        boolean isPerson(int p) {
            return p >= 0 && p < people;
        }

        int all() {
            return (1 << people) - 1;
        }

        int liking(int p, int coat) {
            return likes[p * MOST_PEOPLE + coat];
        }

        int far(int p, int q) {
            return Math.abs(x[p] - x[q]) + Math.abs(y[p] - y[q]);
        }

        int farToInn(int inn, int set) {
            int far = 0;
            for (int p = 0; p < people; p++) {
                if ((set >> p & 1) != 0) {
                    far += Math.abs(x[p] - innX[inn]) + Math.abs(y[p] - innY[inn]);
                }
            }
            return far;
        }

        /** How far the coats of a told set are from their owners by a row, together. */
        int farFromOwners(int row, int coats) {
            int far = 0;
            for (int p = 0; p < people; p++) {
                int coat = Rows.at(row, p);
                if (coat != p && (coats >> coat & 1) != 0) {
                    far += far(p, coat);
                }
            }
            return far;
        }

        int marked(int bit) {
            int coats = 0;
            for (int p = 0; p < people; p++) {
                coats |= (marks[p] >> bit & 1) << p;
            }
            return coats;
        }

        int astray() {
            int number = 0;
            for (int p = 0; p < people; p++) {
                if (Rows.at(table, p) != p) {
                    number++;
                }
            }
            return number;
        }

        int rings() {
            int number = 0;
            for (int p = 0; p < people; p++) {
                int ring = Rows.ring(table, p);
                if (Rows.isLeast(ring, p) && Integer.bitCount(ring) > 1) {
                    number++;
                }
            }
            return number;
        }

        int greatestRing() {
            int greatest = 0;
            for (int p = 0; p < people; p++) {
                greatest = Math.max(greatest, Integer.bitCount(Rows.ring(table, p)));
            }
            return greatest;
        }

        /** Coats that those have who won't: their owners can't have them. */
        int withheld() {
            int coats = 0;
            for (int p = 0; p < people; p++) {
                if ((wont >> p & 1) != 0) {
                    coats |= 1 << Rows.at(table, p);
                }
            }
            return coats;
        }

        /** Those who must have their own before all is well. */
        int bound() {
            return all() & ~wont & ~withheld();
        }

        /** A ring without any who won't, or what is left between two of them, needs a pair fewer than it has people. */
        int pairsToWell() {
            int willing = all() & ~wont;
            int chains = Integer.bitCount(willing & withheld());
            for (int p = 0; p < people; p++) {
                int ring = Rows.ring(table, p);
                if (Rows.isLeast(ring, p) && (ring & wont) == 0) {
                    chains++;
                }
            }
            return Integer.bitCount(willing) - chains;
        }
    }

    /** Rows of six different numbers 0 .. 5 in one number: what is at place k is in its bits 3k .. 3k + 2. */
    private static final class Rows {
        static final int OWN = 1 << 3 | 2 << 6 | 3 << 9 | 4 << 12 | 5 << 15;

        static int at(int row, int k) {
            return row >> (3 * k) & 7;
        }

        static int with(int row, int k, int v) {
            return row & ~(7 << (3 * k)) | v << (3 * k);
        }

        static int packed(int[] items, int n) {
            int row = OWN;
            for (int k = 0; k < n; k++) {
                row = with(row, k, items[k]);
            }
            return row;
        }

        static int placeOf(int row, int v) {
            for (int k = 0; k < MOST_PEOPLE; k++) {
                if (at(row, k) == v) {
                    return k;
                }
            }
            return v;
        }

        static int swapped(int row, int i, int j) {
            return with(with(row, i, at(row, j)), j, at(row, i));
        }

        static int ring(int row, int first) {
            int ring = 1 << first;
            int p = at(row, first);
            for (int k = 1; k < MOST_PEOPLE && p != first; k++) {
                ring |= 1 << p;
                p = at(row, p);
            }
            return ring;
        }

        static boolean isLeast(int set, int p) {
            return Integer.numberOfTrailingZeros(set) == p;
        }

        static boolean areOwn(int row, int set) {
            for (int p = 0; p < MOST_PEOPLE; p++) {
                if ((set >> p & 1) != 0 && at(row, p) != p) {
                    return false;
                }
            }
            return true;
        }

        /** Of a set that has met: its own for each whose coat is there, the rest of the coats in order for the rest. */
        static int settled(int row, int set) {
            int coats = 0;
            for (int p = 0; p < MOST_PEOPLE; p++) {
                if ((set >> p & 1) != 0) {
                    coats |= 1 << at(row, p);
                }
            }
            int left = coats & ~set;
            int after = row;
            for (int p = 0; p < MOST_PEOPLE; p++) {
                if ((set >> p & 1) != 0) {
                    boolean own = (coats >> p & 1) != 0;
                    after = with(after, p, own ? p : Integer.numberOfTrailingZeros(left));
                    left = own ? left : left & (left - 1);
                }
            }
            return after;
        }

        /**
         * The place of a row among all rows, in their order: OWN has 0. Each number counts for how many below it come
         * behind it; written without a loop, for it is what searches do most.
         */
        static int rank(int row) {
            int a = row & 7;
            int b = row >> 3 & 7;
            int c = row >> 6 & 7;
            int d = row >> 9 & 7;
            int e = row >> 12 & 7;
            int f = row >> 15 & 7;
            int second = b > a ? b - 1 : b;
            int third = c - (c > a ? 1 : 0) - (c > b ? 1 : 0);
            int fourth = (d > e ? 1 : 0) + (d > f ? 1 : 0);
            return 120 * a + 24 * second + 6 * third + 2 * fourth + (e > f ? 1 : 0);
        }
    }

    /** Meetings by their numbers. */
    private static final class Meetings {
        static final int KIND = 10000, ONE = 100, INN = 1000;
        static final int PAIR = 0, AT_INN = 1, POST = 2;

        static int pair(int one, int other) {
            return ONE * one + other;
        }

        static int atInn(int inn, int set) {
            return KIND * AT_INN + INN * inn + set;
        }

        static int post(int one) {
            return KIND * POST + one;
        }

        /** The set of those in a meeting; 0 if there is no such meeting. */
        static int there(Night night, int number) {
            if (number < 0) {
                return 0;
            }
            int rest = number % KIND;
            switch (number / KIND) {
                case PAIR: return pairThere(night, rest / ONE, rest % ONE);
                case AT_INN: return innThere(night, rest / INN, rest % INN);
                case POST: return postThere(night, rest);
                default: return 0;
            }
        }

        private static int pairThere(Night night, int one, int other) {
            return one < other && other < night.people ? 1 << one | 1 << other : 0;
        }

        private static int innThere(Night night, int inn, int set) {
            int size = Integer.bitCount(set);
            return inn < night.inns && set <= night.all() && size >= 2 && size <= night.seats ? set : 0;
        }

        private static int postThere(Night night, int one) {
            if (one >= night.people) {
                return 0;
            }
            int ring = Rows.ring(night.table, one);
            return Rows.isLeast(ring, one) && Integer.bitCount(ring) > 1 ? ring : 0;
        }

        /** Of a meeting that there is. */
        static int milesOf(Night night, int number, int there) {
            int rest = number % KIND;
            switch (number / KIND) {
                case PAIR: return 2 * night.far(rest / ONE, rest % ONE);
                case AT_INN: return 2 * night.farToInn(rest / INN, there);
                default: return night.rate * night.farFromOwners(night.table, there);
            }
        }

        static int after(int row, int number, int there) {
            if (number / KIND == PAIR) {
                return Rows.swapped(row, number / ONE, number % ONE);
            }
            // By post, too: all of a ring is there, so that each has his own then.
            return Rows.settled(row, there);
        }
    }

    /**
     * The search for the plan. Tables are taken up by miles gone and miles that must still be gone, together, then by
     * meetings. What must still be gone is how far coats are from owners who must have them: no meeting brings coats
     * nearer by more than its miles, so a table that is taken up can't be come to for less by a later one.
     */
    private static final class Planner {
        static final int MILE = 1024, UNSEEN = -1;

        boolean known;
        int miles;
        int meetings;
        final int[] steps = new int[TABLES];
        private Night night;
        private int bound;
        private int goal;
        private int limit;
        /** By ranks of tables: MILE times miles, and meetings, till there. */
        private final int[] gone = new int[TABLES];
        private final int[] rows = new int[TABLES];
        private final int[] from = new int[TABLES];
        private final int[] by = new int[TABLES];
        private final Heap heap = new Heap();
        /** By sets: the miles of their nearest inn, and the meeting there; 0 for a set that can't meet. */
        private final int[] innMiles = new int[SETS];
        private final int[] innMeeting = new int[SETS];

        void reckon(Night now) {
            night = now;
            bound = now.bound();
            goal = UNSEEN;
            limit = UNKNOWN;
            Arrays.fill(gone, UNSEEN);
            heap.size = 0;
            chooseInns();
            reach(UNSEEN, 0, now.table, 0);
            for (int k = 0; k < TABLES && heap.size > 0; k++) {
                int table = heap.take();
                if (heap.keys[table] > limit) {
                    break;
                }
                if (Rows.areOwn(rows[table], bound)) {
                    arrive(table);
                } else {
                    goByPairs(table);
                    goByInns(table);
                    goByPosts(table);
                }
            }
            tell();
            known = true;
        }

        /** A set goes to the same table from any inn, so only its nearest inn, of like ones the first, is of use. */
        private void chooseInns() {
            Arrays.fill(innMeeting, 0);
            for (int set = 3; set <= night.all(); set++) {
                int size = Integer.bitCount(set);
                if (size < 2 || size > night.seats || (set & night.wont) != 0) {
                    continue;
                }
                for (int inn = 0; inn < night.inns; inn++) {
                    int there = 2 * night.farToInn(inn, set);
                    if (innMeeting[set] == 0 || there < innMiles[set]) {
                        innMiles[set] = there;
                        innMeeting[set] = Meetings.atInn(inn, set);
                    }
                }
            }
        }

        private void goByPairs(int table) {
            for (int one = 0; one < night.people; one++) {
                for (int other = one + 1; other < night.people; other++) {
                    int label = gone[table] + MILE * 2 * night.far(one, other) + 1;
                    if (((night.wont >> one | night.wont >> other) & 1) == 0 && label <= limit) {
                        reach(table, Meetings.pair(one, other), Rows.swapped(rows[table], one, other), label);
                    }
                }
            }
        }

        private void goByInns(int table) {
            for (int set = 3; set <= night.all(); set++) {
                int label = gone[table] + MILE * innMiles[set] + 1;
                if (innMeeting[set] != 0 && label <= limit) {
                    reach(table, innMeeting[set], Rows.settled(rows[table], set), label);
                }
            }
        }

        private void goByPosts(int table) {
            for (int one = 0; one < night.people; one++) {
                int ring = Rows.ring(rows[table], one);
                if (Rows.isLeast(ring, one) && Integer.bitCount(ring) > 1 && (ring & night.wont) == 0) {
                    int label = gone[table] + MILE * night.rate * night.farFromOwners(rows[table], ring) + 1;
                    if (label <= limit) {
                        reach(table, Meetings.post(one), Rows.settled(rows[table], ring), label);
                    }
                }
            }
        }

        /** A way to a table, which counts if it is the first one there, or goes ahead of the one that is known. */
        private void reach(int before, int meeting, int row, int label) {
            int table = Rows.rank(row);
            int till = gone[table];
            if (till == UNSEEN) {
                rows[table] = row;
                heap.add(table, label + MILE * night.farFromOwners(row, bound));
            } else if (label < till) {
                heap.lower(table, heap.keys[table] - till + label);
            } else if (label > till || !isEarlier(before, meeting, from[table], by[table])) {
                return;
            }
            gone[table] = label;
            from[table] = before;
            by[table] = meeting;
            // Where all is well no miles must still be gone: the key is the label.
            if (label < limit && Rows.areOwn(row, bound)) {
                limit = label;
            }
        }

        /** Tables where all is well with the same miles and meetings: the plan whose numbers come first. */
        private void arrive(int table) {
            if (goal == UNSEEN || isEarlier(from[table], by[table], from[goal], by[goal])) {
                goal = table;
            }
        }

        /** Of two ways of as many meetings, told by their last tables and meetings: whether the first differs downward first. */
        private boolean isEarlier(int table, int meeting, int otherTable, int otherMeeting) {
            boolean earlier = meeting < otherMeeting;
            int one = table;
            int other = otherTable;
            for (int k = 0; k < TABLES && one != other && one >= 0 && other >= 0; k++) {
                if (by[one] != by[other]) {
                    earlier = by[one] < by[other];
                }
                one = from[one];
                other = from[other];
            }
            return earlier;
        }

        /** All can be made well by pairs, so there is a goal. */
        private void tell() {
            int table = goal;
            miles = table < 0 ? 0 : gone[table] / MILE;
            meetings = table < 0 ? 0 : gone[table] % MILE;
            for (int k = meetings - 1; k >= 0 && table >= 0; k--) {
                steps[k] = by[table];
                table = from[table];
            }
        }
    }

    /** Tables by their keys, the least first. */
    private static final class Heap {
        int size;
        final int[] keys = new int[TABLES];
        private final int[] tables = new int[TABLES];
        private final int[] places = new int[TABLES];

        /** A table comes once a search at most, so that there is room for all. */
        void add(int table, int key) {
            keys[table] = key;
            size++;
            rise(table, size - 1);
        }

        void lower(int table, int key) {
            keys[table] = key;
            rise(table, places[table]);
        }

        /** The caller has seen that there is one. */
        int take() {
            int least = tables[0];
            size--;
            sink(tables[size]);
            return least;
        }

        private void put(int table, int place) {
            tables[place] = table;
            places[table] = place;
        }

        private void rise(int table, int free) {
            int place = free;
            while (place > 0 && keys[tables[(place - 1) / 2]] > keys[table]) {
                put(tables[(place - 1) / 2], place);
                place = (place - 1) / 2;
            }
            put(table, place);
        }

        /** The top is free. */
        private void sink(int table) {
            int place = 0;
            for (int child = 1; child < size; child = 2 * child + 1) {
                if (child + 1 < size && keys[tables[child + 1]] < keys[tables[child]]) {
                    child++;
                }
                if (keys[table] <= keys[tables[child]]) {
                    break;
                }
                put(tables[child], place);
                place = child;
            }
            put(table, place);
        }
    }

    /** Pairs at once. Any rings come right in two days: each is turned over twice. */
    private static final class Days {
        boolean known;
        int days;
        int miles;
        /** Rows that tell with whom each changes (himself: with nobody); the first is the day when nobody does. */
        private final int[] matchings = new int[MATCHINGS];
        /** Of a matching; below 0 if one is in it who is not there, or won't. */
        private final int[] milesOf = new int[MATCHINGS];

        Days() {
            gather(matchings, 0, 0, Rows.OWN);
        }

        /** All matchings that go on from a row, in which people ahead of p are told, come behind so many: how many then. */
        private static int gather(int[] into, int number, int p, int row) {
            if (p >= MOST_PEOPLE || number >= MATCHINGS) {
                return number;
            }
            if (p == MOST_PEOPLE - 1) {
                into[number] = row;
                return number + 1;
            }
            int so = gather(into, number, p + 1, row);
            for (int q = p + 1; q < MOST_PEOPLE && Rows.at(row, p) == p; q++) {
                if (Rows.at(row, q) == q) {
                    so = gather(into, so, p + 1, Rows.swapped(row, p, q));
                }
            }
            return so;
        }

        void reckon(Night night) {
            int willing = night.all() & ~night.wont;
            for (int m = 0; m < MATCHINGS; m++) {
                boolean can = Rows.areOwn(matchings[m], SETS - 1 & ~willing);
                milesOf[m] = can ? night.farFromOwners(matchings[m], SETS - 1) : -1;
            }
            int bound = night.bound();
            days = 0;
            miles = Rows.areOwn(night.table, bound) ? 0 : UNKNOWN;
            if (miles == UNKNOWN) {
                days = 1;
                lessen(night.table, bound, 0);
            }
            if (miles == UNKNOWN) {
                days = 2;
                for (int m = 1; m < MATCHINGS; m++) {
                    lessen(night.table, bound, m);
                }
            }
            known = true;
        }

        /** With a told matching on the first day, and any on the second. */
        private void lessen(int table, int bound, int first) {
            if (milesOf[first] < 0) {
                return;
            }
            for (int m = 0; m < MATCHINGS; m++) {
                int sum = milesOf[first] + milesOf[m];
                if (milesOf[m] >= 0 && sum < miles && isWell(table, bound, matchings[first], matchings[m])) {
                    miles = sum;
                }
            }
        }

        private static boolean isWell(int table, int bound, int first, int second) {
            for (int p = 0; p < MOST_PEOPLE; p++) {
                if ((bound >> p & 1) != 0 && Rows.at(table, Rows.at(first, Rows.at(second, p))) != p) {
                    return false;
                }
            }
            return true;
        }
    }

    /** What is typed, read as facts. */
    private static final class Tape {
        int length;
        private int place;
        private final int[] signs = new int[TAPE_SIGNS];
        private final int[] draft = new int[MOST_PEOPLE];

        static boolean isSign(int b) {
            return b >= 32 && b <= 126;
        }

        int room() {
            return TAPE_SIGNS - length;
        }

        /** The caller has seen that there is room. */
        void put(int sign) {
            signs[length] = sign;
            length++;
        }

        /** Facts are drafted, so that nothing holds of a text with a fault. */
        int read(Night night) {
            System.arraycopy(night.may, 0, draft, 0, MOST_PEOPLE);
            place = 0;
            int answer = readClauses(night);
            if (answer > 0) {
                System.arraycopy(draft, 0, night.may, 0, MOST_PEOPLE);
            }
            length = 0;
            return answer;
        }

        private int readClauses(Night night) {
            for (int clauses = 1; clauses <= MOST_CLAUSES; clauses++) {
                if (!readClause(night)) {
                    return FAULT - place;
                }
                int sign = look();
                if (sign == END) {
                    return clauses;
                }
                if (sign != ';' || clauses == MOST_CLAUSES) {
                    return FAULT - place;
                }
                place++;
            }
            return FAULT - place;
        }

        /** Whether a clause stands here; if not, place is where it goes wrong. */
        private boolean readClause(Night night) {
            int one = look() - 'a';
            if (!night.isPerson(one)) {
                return false;
            }
            place++;
            int sign = look();
            boolean ofCoat = sign == '=' || sign == '!';
            if (!ofCoat && sign != '+' && sign != '-') {
                return false;
            }
            place++;
            int thing = look() - (ofCoat ? 'a' : '1');
            if (ofCoat ? !night.isPerson(thing) : thing < 0 || thing >= 6) {
                return false;
            }
            place++;
            int coats = ofCoat ? 1 << thing : night.marked(thing);
            draft[one] &= sign == '=' || sign == '+' ? coats : ~coats;
            return true;
        }

        /** The sign behind blanks, where place is then. */
        private int look() {
            while (place < length && signs[place] == ' ') {
                place++;
            }
            return place < length ? signs[place] : END;
        }
    }

    /** How many ways there are to give each a coat out of those that are allowed to him. */
    private static final class Givings {
        private final int[] allowed = new int[MOST_PEOPLE];
        /** By sets of coats that are given to the first people, as many as there are coats. */
        private final int[] ways = new int[SETS];

        private int number(int all) {
            Arrays.fill(ways, 0);
            ways[0] = 1;
            for (int given = 0; given < all; given++) {
                if (ways[given] != 0) {
                    giveOneMore(given, allowed[Integer.bitCount(given)] & all & ~given);
                }
            }
            return ways[all];
        }

        private void giveOneMore(int given, int coats) {
            for (int c = 0; c < MOST_PEOPLE; c++) {
                if ((coats >> c & 1) != 0) {
                    ways[given | 1 << c] += ways[given];
                }
            }
        }

        int worldsOf(Night night) {
            System.arraycopy(night.may, 0, allowed, 0, MOST_PEOPLE);
            return number(night.all());
        }

        private int worldsWith(Night night, int person, int coat) {
            System.arraycopy(night.may, 0, allowed, 0, MOST_PEOPLE);
            allowed[person] &= 1 << coat;
            return number(night.all());
        }

        int possible(Night night, int person) {
            int coats = 0;
            for (int c = 0; c < night.people; c++) {
                if (worldsWith(night, person, c) > 0) {
                    coats |= 1 << c;
                }
            }
            return coats;
        }

        int leftAtWorst(Night night, int person) {
            int worst = 0;
            for (int c = 0; c < night.people; c++) {
                worst = Math.max(worst, worldsWith(night, person, c));
            }
            return worst;
        }

        /** Others than the set keep what they have, so that the set has to do with its own coats. */
        boolean couldDoBetter(Night night, int set, int[] table) {
            for (int p = 0; p < night.people; p++) {
                boolean isIn = (set >> p & 1) != 0;
                allowed[p] = isIn ? likedMore(night, p, table[p]) : 1 << Rows.at(night.table, p);
            }
            return number(night.all()) > 0;
        }

        private static int likedMore(Night night, int person, int coat) {
            int coats = 0;
            for (int c = 0; c < night.people; c++) {
                if (night.liking(person, c) > night.liking(person, coat)) {
                    coats |= 1 << c;
                }
            }
            return coats;
        }
    }

    /** Slips by their numbers; an object of it tells by how few of told kinds, in how many ways, each table comes to be. */
    private static final class Slips {
        static final int SWAP = 0, MOVED = 1, KIND = 36, I = 6, UNSEEN = -1;

        int people;
        private final int kinds;
        private int known;
        private final int[] slips = new int[MOST_SLIPS];
        private final int[] targets = new int[MOST_SLIPS];
        /** By ranks of tables. */
        private final int[] fewest = new int[TABLES];
        private final int[] ways = new int[TABLES];

        Slips(int kinds) {
            this.kinds = kinds;
        }

        static int number(int kind, int i, int j) {
            return KIND * kind + I * i + j;
        }

        /** A row that tells where what is at each place goes. */
        static int targetsOf(int slip) {
            int kind = slip / KIND;
            int i = slip % KIND / I;
            int j = slip % I;
            if (kind == SWAP) {
                return Rows.swapped(Rows.OWN, i, j);
            }
            int row = Rows.OWN;
            for (int k = i; k <= j; k++) {
                int moved = k < j ? k + 1 : i;
                row = Rows.with(row, k, kind == MOVED ? moved : i + j - k);
            }
            return row;
        }

        static int done(int row, int targets) {
            int after = 0;
            for (int bit = 0; bit < 3 * MOST_PEOPLE; bit += 3) {
                after |= (row >> bit & 7) << 3 * (targets >> bit & 7);
            }
            return after;
        }

        static int harmOf(Night night, int targets, int[] order) {
            int harm = 0;
            for (int k = 0; k < night.people; k++) {
                int target = Rows.at(targets, k);
                if (target != k && target < night.people) {
                    harm += night.far(order[target], order[k]);
                }
            }
            return harm;
        }

        void fill(int peopleNow, int[] queue) {
            people = peopleNow;
            gather();
            Arrays.fill(fewest, UNSEEN);
            fewest[0] = 0;
            ways[0] = 1;
            queue[0] = Rows.OWN;
            int seen = 1;
            for (int k = 0; k < TABLES && k < seen; k++) {
                seen = spread(queue[k], queue, seen);
            }
        }

        /** In the order of their numbers, which firstTowards needs. */
        private void gather() {
            known = 0;
            for (int kind = 0; kind < SLIP_KINDS; kind++) {
                for (int i = 0; i < people && (kinds >> kind & 1) != 0; i++) {
                    for (int j = i + 1; j < people && known < MOST_SLIPS; j++) {
                        slips[known] = number(kind, i, j);
                        targets[known] = targetsOf(slips[known]);
                        known++;
                    }
                }
            }
        }

        private int spread(int row, int[] queue, int seenBefore) {
            int seen = seenBefore;
            int before = Rows.rank(row);
            for (int s = 0; s < known; s++) {
                int after = done(row, targets[s]);
                int table = Rows.rank(after);
                if (fewest[table] == UNSEEN && seen < TABLES) {
                    fewest[table] = fewest[before] + 1;
                    ways[table] = 0;
                    queue[seen] = after;
                    seen++;
                }
                if (fewest[table] == fewest[before] + 1) {
                    ways[table] += ways[before];
                }
            }
            return seen;
        }

        int fewestTo(int table) {
            return fewest[Rows.rank(table)];
        }

        int waysTo(int table) {
            return ways[Rows.rank(table)];
        }

        /**
         * A slip that comes first is taken off by naming the places anew, as if all had their own behind it: what is
         * left is as far from there as the table is from the slip.
         */
        int firstWayAt(int table, int index) {
            int left = table;
            for (int k = 0; k < index && k < TABLES; k++) {
                left = renamed(left, targets[firstTowards(left)]);
            }
            return slips[firstTowards(left)];
        }

        private int firstTowards(int left) {
            int wanted = fewestTo(left) - 1;
            for (int s = 0; s < known; s++) {
                if (fewestTo(renamed(left, targets[s])) == wanted) {
                    return s;
                }
            }
            return 0;
        }

        /** A slip's targets, taken as new names of places, are undone so: what was said of a place is said of its target. */
        private static int renamed(int row, int targets) {
            int after = 0;
            for (int k = 0; k < MOST_PEOPLE; k++) {
                after |= Rows.at(targets, Rows.at(row, k)) << (3 * k);
            }
            return after;
        }
    }

    /** The best order: all orders are tried, as rows of people go. */
    private static final class Rail {
        boolean known;
        int greatest;
        int sum;
        final int[] order = new int[MOST_PEOPLE];
        private final int[] trial = new int[MOST_PEOPLE];
        /** By feared slips. */
        private final int[] targets = new int[MOST_FEARS];

        void reckon(Night night) {
            for (int k = 0; k < MOST_PEOPLE; k++) {
                trial[k] = k;
            }
            for (int f = 0; f < night.feared; f++) {
                targets[f] = Slips.targetsOf(night.fears[f]);
            }
            greatest = UNKNOWN;
            sum = UNKNOWN;
            weigh(night);
            for (int k = 1; k < TABLES && goOn(night.people); k++) {
                weigh(night);
            }
            known = true;
        }

        private void weigh(Night night) {
            int worst = 0;
            int together = 0;
            for (int f = 0; f < night.feared; f++) {
                int harm = Slips.harmOf(night, targets[f], trial);
                worst = Math.max(worst, harm);
                together += harm;
            }
            if (worst < greatest || (worst == greatest && together < sum)) {
                greatest = worst;
                sum = together;
                System.arraycopy(trial, 0, order, 0, MOST_PEOPLE);
            }
        }

        /** The next order of so many people, if there is one. */
        private boolean goOn(int people) {
            int k = people - 2;
            while (k >= 0 && trial[k] > trial[k + 1]) {
                k--;
            }
            if (k < 0) {
                return false;
            }
            int greater = people - 1;
            while (greater > k + 1 && trial[greater] < trial[k]) {
                greater--;
            }
            exchange(k, greater);
            for (int i = k + 1, j = people - 1; i < j; i++, j--) {
                exchange(i, j);
            }
            return true;
        }

        private void exchange(int i, int j) {
            int person = trial[i];
            trial[i] = trial[j];
            trial[j] = person;
        }
    }

    /** Rows of lanes, or nothing. */
    private static final class Sheets {
        final int[][] items = new int[MOST_SHEETS][MOST_ITEMS];
        final int[] lanes = new int[MOST_SHEETS];
        final int[] sizes = new int[MOST_SHEETS];

        Sheets() {
            Arrays.fill(lanes, EMPTY);
        }

        static boolean isSheet(int sheet) {
            return sheet >= 0 && sheet < MOST_SHEETS;
        }

        static boolean isLane(int lane) {
            return lane >= 0 && lane < LANES;
        }

        static int narrowed(int lane, int v) {
            if (lane == 0) {
                return (byte) v;
            }
            return lane == 1 ? (short) v : v;
        }

        void lay(int sheet, int lane, int n) {
            Arrays.fill(items[sheet], 0);
            lanes[sheet] = lane;
            sizes[sheet] = n;
        }

        /** Written so that no sum can wrap round. */
        boolean holds(int sheet, int i, int n) {
            return i >= 0 && n >= 0 && i <= sizes[sheet] && n <= sizes[sheet] - i;
        }

        /** What is wrong with n items of a sheet from i on, taken as a row of a lane; 0 if nothing is. */
        int faultOf(int sheet, int lane, int i, int n) {
            if (!isSheet(sheet) || !isLane(lane)) {
                return BAD;
            }
            if (lanes[sheet] == EMPTY) {
                return NULL;
            }
            if (lanes[sheet] != lane) {
                return CAST;
            }
            return holds(sheet, i, n) ? 0 : INDEX;
        }
    }
}
