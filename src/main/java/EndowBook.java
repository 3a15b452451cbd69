/** Gifts that are for ever: deeds, what they yield, and to whom it goes. README.md tells how to use it. */
public final class EndowBook {
    public static final int NONE = -1;
    public static final int MISSING = -2;
    public static final int BEYOND = -3;
    public static final int BELOW = -4;
    public static final int KIND = -5;
    public static final int COPY = -6;
    public static final int NO = -7;
    public static final int FULL = -8;

    private static final int MOST_PERSONS = 30;
    private static final int MOST_UNKNOWN = 5;
    private static final int HOUSES = 8;
    private static final int MOST_THINGS = 10;
    private static final int PARTS = 12;
    private static final int MOST_DEEDS = 6;
    private static final int MOST_ENDS = 6;
    private static final int MOST_BYTES = 120;
    private static final int MOST_LEASES = 30;
    private static final int LAST_NOW = 600;
    private static final int LAST_YEAR = 700;
    private static final int MOST_WORTH = 9999;
    private static final int MOST_YIELD = 9999;
    private static final int LONGEST_LEASE = 99;
    private static final int LONGEST_RUN = 100;
    private static final int FIRST_LONG = 3;
    private static final int TWELFTHS = 12;
    private static final int HUNDREDTHS = 100;
    private static final int FAULT_BASE = -10;

    private static final int FIXED = 0;
    private static final int LINE = 1;
    private static final int MANAGER = 2;
    private static final int REST = 3;

    private static final int NO_TEST = 0;
    private static final int TEST_YEAR = 1;
    private static final int TEST_YIELD = 2;
    private static final int TEST_ALIVE = 3;

    /** In place of one way that the unknown ones live or don't: as they are told to be taken. */
    private static final int AS_TAKEN = -1;

    private final Kin kin;
    private final Things things;
    private final Tape tape;
    private final Deed[] deeds;
    private final Split split;
    private final Leases leases;
    private final long[] personAccounts;
    private final long[] houseAccounts;
    private final int[] theRow;
    private final int[] refusals;
    private int deedCount;
    private int rowLength;
    private int now;

    public EndowBook() {
        kin = new Kin();
        things = new Things();
        tape = new Tape();
        deeds = new Deed[MOST_DEEDS];
        for (int d = 0; d < MOST_DEEDS; d++) {
            deeds[d] = new Deed();
        }
        split = new Split();
        leases = new Leases();
        personAccounts = new long[MOST_PERSONS];
        houseAccounts = new long[HOUSES];
        theRow = new int[MOST_PERSONS];
        refusals = new int[1 - FULL];
        deedCount = 0;
        rowLength = NONE;
        now = 0;
    }

    // ---- persons

    public int person(int parent, int born) {
        if (parent != NONE && !kin.has(parent)) {
            return refuse(BEYOND);
        }
        if (born < kin.earliestBirth(parent) || born > LAST_YEAR) {
            return refuse(NO);
        }
        if (kin.size >= MOST_PERSONS) {
            return refuse(FULL);
        }
        return kin.add(parent, born);
    }

    public int death(int person, int year) {
        if (!kin.has(person)) {
            return refuse(BEYOND);
        }
        if (year != NONE && (year < kin.born[person] || year > LAST_YEAR)) {
            return refuse(NO);
        }
        int before = kin.died[person];
        kin.settle(person, year);
        return before;
    }

    public int unknown(int person, int is) {
        if (!kin.has(person)) {
            return refuse(BEYOND);
        }
        if (!isFlag(is)) {
            return refuse(NO);
        }
        int before = flag(kin.unsure[person]);
        if (is == 1) {
            if (kin.unsureCount() - before >= MOST_UNKNOWN) {
                return refuse(FULL);
            }
            kin.doubt(person);
        } else if (before == 1) {
            kin.settle(person, NONE);
        }
        return before;
    }

    public int taken(int person, int is) {
        if (!kin.has(person)) {
            return refuse(BEYOND);
        }
        if (!kin.unsure[person]) {
            return refuse(KIND);
        }
        if (!isFlag(is)) {
            return refuse(NO);
        }
        int before = flag(kin.takenToLive[person]);
        kin.takenToLive[person] = is == 1;
        return before;
    }

    public int look(int person, int what) {
        if (!kin.has(person)) {
            return refuse(BEYOND);
        }
        kin.wake(now, AS_TAKEN);
        switch (what) {
            case 0:
                return kin.parentOf[person];
            case 1:
                return kin.born[person];
            case 2:
                return kin.died[person];
            case 3:
                return flag(kin.unsure[person]);
            case 4:
                return flag(kin.alive[person]);
            case 5:
                return kin.children(person);
            case 6:
                return kin.aliveInLine[person];
            default:
                return refuse(NO);
        }
    }

    // ---- things

    public int thing(int worth, int yield) {
        if (!isWorth(worth) || !isYield(yield)) {
            return refuse(NO);
        }
        if (things.size >= MOST_THINGS) {
            return refuse(FULL);
        }
        return things.add(worth, yield);
    }

    public int tell(int thing, int what, int v) {
        if (!things.has(thing)) {
            return refuse(BEYOND);
        }
        if (what == 0 && isWorth(v)) {
            int before = things.worth[thing];
            things.worth[thing] = v;
            return before;
        }
        if (what == 1 && isYield(v)) {
            int before = things.yearly[thing];
            things.yearly[thing] = v;
            return before;
        }
        return refuse(NO);
    }

    public int ruin(int thing, int is) {
        if (!things.has(thing)) {
            return refuse(BEYOND);
        }
        if (!isFlag(is)) {
            return refuse(NO);
        }
        int before = flag(things.ruined[thing]);
        things.ruined[thing] = is == 1;
        return before;
    }

    public int part(int thing, int deed, int n) {
        if (!things.has(thing) || !hasDeed(deed)) {
            return refuse(BEYOND);
        }
        if (n < 1 || n > PARTS) {
            return refuse(NO);
        }
        if (n > things.ungiven(thing)) {
            return refuse(FULL);
        }
        return things.give(thing, deed, n);
    }

    public int parts(int thing, int deed) {
        if (!things.has(thing) || (deed != NONE && !hasDeed(deed))) {
            return refuse(BEYOND);
        }
        if (deed == NONE) {
            return things.ungiven(thing);
        }
        return things.given[thing * MOST_DEEDS + deed];
    }

    // ---- deeds

    public int feed(int bytes, int n) {
        if (n < 0) {
            return refuse(BELOW);
        }
        if (n > 4) {
            return refuse(NO);
        }
        if (n > MOST_BYTES - tape.length) {
            return refuse(FULL);
        }
        tape.append(bytes, n);
        return tape.length;
    }

    public int wipe() {
        int before = tape.length;
        tape.length = 0;
        return before;
    }

    public int deed() {
        if (deedCount >= MOST_DEEDS) {
            return refuse(FULL);
        }
        Deed next = deeds[deedCount];
        if (next == null) {
            return refuse(FULL);
        }
        if (!tape.readDeed(next)) {
            return FAULT_BASE - tape.place;
        }
        if (!next.isSound(kin.size)) {
            return refuse(NO);
        }
        tape.length = 0;
        deedCount++;
        return deedCount - 1;
    }

    public int end(int deed, int i, int what) {
        Deed d = deedAt(deed);
        if (d == null) {
            return refuse(BEYOND);
        }
        if (i == NONE) {
            return d.ends;
        }
        if (!d.hasEnd(i)) {
            return refuse(BEYOND);
        }
        int kind = d.kind[i];
        switch (what) {
            case 0:
                return kind;
            case 1:
                return kind == REST ? refuse(KIND) : d.number[i];
            case 2:
                return kind == LINE || kind == MANAGER ? d.root[i] : refuse(KIND);
            case 3:
                return kind == FIXED || kind == REST ? d.house[i] : refuse(KIND);
            case 4:
                return kind == LINE ? flag(d.byHeads[i]) : refuse(KIND);
            case 5:
                splitNow(d, deed);
                return flag(split.so[i]);
            default:
                return refuse(NO);
        }
    }

    // ---- yields and shares, as they would be if NOW went by

    public int yields(int deed) {
        if (!hasDeed(deed)) {
            return refuse(BEYOND);
        }
        return things.yieldOf(deed);
    }

    public int manager(int deed) {
        Deed d = deedAt(deed);
        if (d == null) {
            return refuse(BEYOND);
        }
        splitNow(d, deed);
        return split.steward;
    }

    public int left(int deed) {
        Deed d = deedAt(deed);
        if (d == null) {
            return refuse(BEYOND);
        }
        splitNow(d, deed);
        return split.leftOver;
    }

    public int gets(int deed, int i) {
        Deed d = deedAt(deed);
        if (d == null || !d.hasEnd(i)) {
            return refuse(BEYOND);
        }
        splitNow(d, deed);
        return split.toEnd[i];
    }

    public int due(int deed, int person) {
        Deed d = deedAt(deed);
        if (d == null || !kin.has(person)) {
            return refuse(BEYOND);
        }
        splitNow(d, deed);
        return split.toPerson[person];
    }

    public long share(int deed, int i, int person, boolean lower) {
        Deed d = deedAt(deed);
        if (d == null || !d.hasEnd(i) || !kin.has(person)) {
            refuse(BEYOND);
            return 0;
        }
        if (d.kind[i] != LINE) {
            refuse(KIND);
            return 0;
        }
        kin.wake(now, AS_TAKEN);
        split.setShares(kin, d.root[i], d.byHeads[i]);
        int divisor = split.shareOf[person];
        if (lower) {
            return divisor == 0 ? 1 : divisor;
        }
        return divisor == 0 ? 0 : 1;
    }

    public int bound(int deed, int person, boolean greatest) {
        Deed d = deedAt(deed);
        if (d == null || !kin.has(person)) {
            return refuse(BEYOND);
        }
        int yield = things.yieldOf(deed);
        int ways = 1 << kin.doubtful(now);
        int best = 0;
        for (int way = 0; way < ways; way++) {
            kin.wake(now, way);
            split.reckon(kin, d, yield, now);
            int amount = split.toPerson[person];
            if (way == 0 || (greatest ? amount > best : amount < best)) {
                best = amount;
            }
        }
        return best;
    }

    public int run(int n) {
        if (n < 0) {
            return refuse(BELOW);
        }
        if (n < 1 || n > LONGEST_RUN) {
            return refuse(NO);
        }
        if (n > LAST_NOW - now) {
            return refuse(FULL);
        }
        for (int year = 0; year < n; year++) {
            goBy();
        }
        return now;
    }

    public long account(int who, boolean house) {
        if (house) {
            if (who >= 0 && who < HOUSES) {
                return houseAccounts[who];
            }
        } else if (kin.has(who)) {
            return personAccounts[who];
        }
        refuse(BEYOND);
        return 0;
    }

    // ---- leases, swaps

    public int lease(int thing, int from, int n, boolean judged) {
        if (!things.has(thing)) {
            return refuse(BEYOND);
        }
        if (from < now || from > LAST_YEAR || n < 1 || n > LONGEST_LEASE) {
            return refuse(NO);
        }
        if (leases.size >= MOST_LEASES) {
            return refuse(FULL);
        }
        boolean lets = judged || n <= leases.longest;
        boolean holds = lets && !things.ruined[thing] && leases.isFree(thing, from, from + n);
        return leases.add(thing, from, n, holds);
    }

    public int leased(int lease, int what) {
        if (!leases.has(lease)) {
            return refuse(BEYOND);
        }
        switch (what) {
            case 0:
                return leases.thingOf[lease];
            case 1:
                return leases.from[lease];
            case 2:
                return leases.years[lease];
            case 3:
                return flag(leases.holds[lease]);
            default:
                return refuse(NO);
        }
    }

    public int law(int n) {
        if (n < 1 || n > LONGEST_LEASE) {
            return refuse(NO);
        }
        int before = leases.longest;
        leases.longest = n;
        return before;
    }

    public int swap(int thing, int other, boolean judged) {
        if (!things.has(thing) || !things.has(other)) {
            return refuse(BEYOND);
        }
        if (thing == other) {
            return refuse(NO);
        }
        boolean holds = judged && things.areLike(thing, other)
            && leases.isFreeFrom(thing, now) && leases.isFreeFrom(other, now);
        if (holds) {
            things.exchange(thing, other);
        }
        return flag(holds);
    }

    public int count(int what) {
        switch (what) {
            case 0:
                return now;
            case 1:
                return kin.size;
            case 2:
                return things.size;
            case 3:
                return deedCount;
            case 4:
                return tape.length;
            case 5:
                kin.wake(now, AS_TAKEN);
                return kin.aliveCount();
            case 6:
                return leases.holding();
            case 7:
                return kin.unsureCount();
            default:
                return refuse(NO);
        }
    }

    // ---- rows

    public int lay(int deed) {
        Deed d = deedAt(deed);
        if (d == null) {
            return refuse(BEYOND);
        }
        splitNow(d, deed);
        for (int p = 0; p < kin.size; p++) {
            theRow[p] = split.toPerson[p];
        }
        rowLength = kin.size;
        return rowLength;
    }

    public int tear() {
        int before = flag(rowLength != NONE);
        rowLength = NONE;
        return before;
    }

    public int row(int i) {
        if (rowLength == NONE) {
            return refuse(MISSING);
        }
        if (i < 0 || i >= rowLength) {
            return refuse(BEYOND);
        }
        return theRow[i];
    }

    public int copy(int i, int j, int n) {
        if (rowLength == NONE) {
            return refuse(MISSING);
        }
        if (n < 0) {
            return refuse(BELOW);
        }
        // compared without a sum, since i + n may wrap round
        if (i < 0 || j < 0 || n > rowLength || i > rowLength - n || j > rowLength - n) {
            return refuse(COPY);
        }
        System.arraycopy(theRow, i, theRow, j, n);
        return n;
    }

    public int status(int by) {
        if (by > MISSING || by < FULL) {
            return refuse(NO);
        }
        return refusals[-by];
    }

    // ---- helpers of the face

    private int refuse(int by) {
        if (by <= MISSING && by >= FULL) {
            refusals[-by]++;
        }
        return by;
    }

    private static boolean isFlag(int is) {
        return is == 0 || is == 1;
    }

    private static int flag(boolean is) {
        return is ? 1 : 0;
    }

    private static boolean isWorth(int v) {
        return v >= 1 && v <= MOST_WORTH;
    }

    private static boolean isYield(int v) {
        return v >= 0 && v <= MOST_YIELD;
    }

    private boolean hasDeed(int deed) {
        return deed >= 0 && deed < deedCount;
    }

    private Deed deedAt(int deed) {
        return hasDeed(deed) ? deeds[deed] : null;
    }

    private void splitNow(Deed d, int deed) {
        kin.wake(now, AS_TAKEN);
        split.reckon(kin, d, things.yieldOf(deed), now);
    }

    private void goBy() {
        kin.wake(now, AS_TAKEN);
        for (int deed = 0; deed < deedCount; deed++) {
            Deed d = deeds[deed];
            if (d != null) {
                split.reckon(kin, d, things.yieldOf(deed), now);
                payOut(d);
            }
        }
        now++;
    }

    private void payOut(Deed d) {
        for (int p = 0; p < kin.size; p++) {
            personAccounts[p] += split.toPerson[p];
        }
        for (int i = 0; i < d.ends; i++) {
            if (d.kind[i] == FIXED || d.kind[i] == REST) {
                houseAccounts[d.house[i]] += split.toEnd[i];
            }
        }
    }

    /** The persons. A parent always has a lower number than its children, so one pass over all does for a tree. */
    private static final class Kin {
        final int[] parentOf = new int[MOST_PERSONS];
        final int[] born = new int[MOST_PERSONS];
        final int[] died = new int[MOST_PERSONS];
        final boolean[] unsure = new boolean[MOST_PERSONS];
        final boolean[] takenToLive = new boolean[MOST_PERSONS];
        int size = 0;

        // as the last wake() left them
        final boolean[] alive = new boolean[MOST_PERSONS];
        final int[] aliveInLine = new int[MOST_PERSONS];
        final int[] heirs = new int[MOST_PERSONS];

        // as the last clearLine() and the addLine()s behind it left it
        final boolean[] inLine = new boolean[MOST_PERSONS];

        boolean has(int p) {
            return p >= 0 && p < size;
        }

        int earliestBirth(int parent) {
            return has(parent) ? born[parent] : 0;
        }

        int add(int parent, int year) {
            int p = size;
            parentOf[p] = parent;
            born[p] = year;
            died[p] = NONE;
            size++;
            return p;
        }

        void settle(int p, int deathYear) {
            died[p] = deathYear;
            unsure[p] = false;
        }

        void doubt(int p) {
            died[p] = NONE;
            unsure[p] = true;
            takenToLive[p] = false;
        }

        int unsureCount() {
            int n = 0;
            for (int p = 0; p < size; p++) {
                n += unsure[p] ? 1 : 0;
            }
            return n;
        }

        /** How many unknown ones are born by a year. */
        int doubtful(int year) {
            int n = 0;
            for (int p = 0; p < size; p++) {
                n += unsure[p] && born[p] <= year ? 1 : 0;
            }
            return n;
        }

        int children(int p) {
            int n = 0;
            for (int c = p + 1; c < size; c++) {
                n += parentOf[c] == p ? 1 : 0;
            }
            return n;
        }

        int aliveCount() {
            int n = 0;
            for (int p = 0; p < size; p++) {
                n += alive[p] ? 1 : 0;
            }
            return n;
        }

        /** Marks who lives in a year; bit k of way tells it of the unknown one that is the k-th of those born. */
        void wake(int year, int way) {
            int rest = way;
            for (int p = 0; p < size; p++) {
                alive[p] = false;
                if (born[p] <= year) {
                    if (!unsure[p]) {
                        alive[p] = died[p] == NONE || died[p] > year;
                    } else if (way == AS_TAKEN) {
                        alive[p] = takenToLive[p];
                    } else {
                        alive[p] = (rest & 1) == 1;
                        rest >>= 1;
                    }
                }
            }
            countLines();
        }

        private void countLines() {
            for (int p = 0; p < size; p++) {
                aliveInLine[p] = alive[p] ? 1 : 0;
                heirs[p] = 0;
            }
            for (int p = size - 1; p >= 0; p--) {
                int parent = parentOf[p];
                if (parent >= 0 && parent < size && aliveInLine[p] > 0) {
                    aliveInLine[parent] += aliveInLine[p];
                    heirs[parent]++;
                }
            }
        }

        void clearLine() {
            for (int p = 0; p < size; p++) {
                inLine[p] = false;
            }
        }

        void addLine(int root) {
            if (root < 0 || root >= size) {
                return;
            }
            inLine[root] = true;
            for (int p = root + 1; p < size; p++) {
                int parent = parentOf[p];
                if (parent >= 0 && parent < size && inLine[parent]) {
                    inLine[p] = true;
                }
            }
        }

        int aliveMarked() {
            int n = 0;
            for (int p = 0; p < size; p++) {
                n += inLine[p] && alive[p] ? 1 : 0;
            }
            return n;
        }

        int firstBornMarked() {
            int first = NONE;
            for (int p = 0; p < size; p++) {
                if (inLine[p] && alive[p] && (first == NONE || born[p] < born[first])) {
                    first = p;
                }
            }
            return first;
        }
    }

    private static final class Things {
        final int[] worth = new int[MOST_THINGS];
        /** As it was told, even if the thing is in ruin and yields nothing. */
        final int[] yearly = new int[MOST_THINGS];
        final boolean[] ruined = new boolean[MOST_THINGS];
        final int[] given = new int[MOST_THINGS * MOST_DEEDS];
        int size = 0;

        boolean has(int t) {
            return t >= 0 && t < size;
        }

        int add(int itsWorth, int itsYield) {
            int t = size;
            worth[t] = itsWorth;
            yearly[t] = itsYield;
            size++;
            return t;
        }

        int ungiven(int t) {
            int n = PARTS;
            for (int d = 0; d < MOST_DEEDS; d++) {
                n -= given[t * MOST_DEEDS + d];
            }
            return n;
        }

        int give(int t, int deed, int n) {
            int place = t * MOST_DEEDS + deed;
            given[place] += n;
            return given[place];
        }

        int yieldOf(int deed) {
            int sum = 0;
            for (int t = 0; t < size; t++) {
                if (!ruined[t]) {
                    sum += yearly[t] * given[t * MOST_DEEDS + deed] / PARTS;
                }
            }
            return sum;
        }

        boolean areLike(int t, int other) {
            int more = worth[t] - worth[other];
            return more <= worth[t] / 10 && -more <= worth[other] / 10;
        }

        void exchange(int t, int other) {
            for (int d = 0; d < MOST_DEEDS; d++) {
                int place = t * MOST_DEEDS + d;
                int otherPlace = other * MOST_DEEDS + d;
                int n = given[place];
                given[place] = given[otherPlace];
                given[otherPlace] = n;
            }
        }
    }

    private static final class Leases {
        final int[] thingOf = new int[MOST_LEASES];
        final int[] from = new int[MOST_LEASES];
        final int[] years = new int[MOST_LEASES];
        final boolean[] holds = new boolean[MOST_LEASES];
        int size = 0;
        int longest = FIRST_LONG;

        boolean has(int l) {
            return l >= 0 && l < size;
        }

        int add(int thing, int first, int n, boolean itHolds) {
            int l = size;
            thingOf[l] = thing;
            from[l] = first;
            years[l] = n;
            holds[l] = itHolds;
            size++;
            return l;
        }

        /** Whether no lease that holds has the thing in a year from first on and ahead of end. */
        boolean isFree(int thing, int first, int end) {
            for (int l = 0; l < size; l++) {
                if (holds[l] && thingOf[l] == thing && from[l] < end && first < from[l] + years[l]) {
                    return false;
                }
            }
            return true;
        }

        /** The same for all years from first on; no lease begins behind LAST_YEAR. */
        boolean isFreeFrom(int thing, int first) {
            return isFree(thing, first, LAST_YEAR + 1);
        }

        int holding() {
            int n = 0;
            for (int l = 0; l < size; l++) {
                n += holds[l] ? 1 : 0;
            }
            return n;
        }
    }

    private static final class Deed {
        final int[] kind = new int[MOST_ENDS];
        final int[] number = new int[MOST_ENDS];
        final int[] root = new int[MOST_ENDS];
        final int[] house = new int[MOST_ENDS];
        final boolean[] byHeads = new boolean[MOST_ENDS];
        final int[] field = new int[MOST_ENDS];
        final int[] sign = new int[MOST_ENDS];
        final int[] than = new int[MOST_ENDS];
        int ends = 0;

        boolean hasEnd(int i) {
            return i >= 0 && i < ends;
        }

        boolean isSound(int persons) {
            int twelfths = 0;
            for (int i = 0; i < ends; i++) {
                boolean ofPerson = kind[i] == LINE || kind[i] == MANAGER;
                if (ofPerson && root[i] >= persons) {
                    return false;
                }
                if (kind[i] == MANAGER && number[i] > HUNDREDTHS) {
                    return false;
                }
                if (kind[i] == LINE) {
                    twelfths += number[i];
                }
            }
            return twelfths <= TWELFTHS;
        }

        boolean testIsSo(int i, int year, int yield, int alive) {
            if (field[i] == NO_TEST) {
                return true;
            }
            int value = field[i] == TEST_YEAR ? year : field[i] == TEST_YIELD ? yield : alive;
            if (sign[i] == '=') {
                return value == than[i];
            }
            return sign[i] == '<' ? value < than[i] : value > than[i];
        }
    }

    /** The tape and its reader: each read.. tells if it went well; if not, place is that of the fault. */
    private static final class Tape {
        final int[] bytes = new int[MOST_BYTES];
        int length = 0;
        int place = 0;
        int value = 0;

        void append(int number, int n) {
            for (int k = n - 1; k >= 0 && length < MOST_BYTES; k--) {
                bytes[length] = number >> (8 * k) & 255;
                length++;
            }
        }

        boolean readDeed(Deed deed) {
            place = 0;
            for (int i = 0; i < MOST_ENDS; i++) {
                if (!readEnd(deed, i)) {
                    return false;
                }
                if (deed.kind[i] == REST) {
                    deed.ends = i + 1;
                    return place == length;
                }
                if (!readWord("; ")) {
                    return false;
                }
            }
            return false;
        }

        private boolean readEnd(Deed deed, int i) {
            deed.field[i] = NO_TEST;
            boolean mayBeLast = i + 1 == MOST_ENDS;
            int letter = next();
            if (letter == 'f' && !mayBeLast) {
                return readFixed(deed, i) && readTest(deed, i);
            }
            if (letter == 'l' && !mayBeLast) {
                return readLine(deed, i) && readTest(deed, i);
            }
            if (letter == 'm' && i == 0) {
                return readManager(deed, i) && readTest(deed, i);
            }
            return readRest(deed, i);
        }

        private boolean readFixed(Deed deed, int i) {
            deed.kind[i] = FIXED;
            if (!readWord("fix ") || !readNumber(4)) {
                return false;
            }
            deed.number[i] = value;
            return readWord(" ") && readHouse(deed, i);
        }

        private boolean readLine(Deed deed, int i) {
            deed.kind[i] = LINE;
            if (!readWord("line ") || !readNumber(4)) {
                return false;
            }
            deed.number[i] = value;
            if (!readPerson(deed, i) || !readWord(" ")) {
                return false;
            }
            deed.byHeads[i] = next() == 'h';
            return readWord(deed.byHeads[i] ? "heads" : "stem");
        }

        private boolean readManager(Deed deed, int i) {
            deed.kind[i] = MANAGER;
            if (!readWord("man ") || !readNumber(4)) {
                return false;
            }
            deed.number[i] = value;
            return readPerson(deed, i);
        }

        private boolean readRest(Deed deed, int i) {
            deed.kind[i] = REST;
            return readWord("rest ") && readHouse(deed, i);
        }

        private boolean readTest(Deed deed, int i) {
            if (next() != ' ') {
                return true;
            }
            if (!readWord(" if ") || !readField(deed, i)) {
                return false;
            }
            int sign = next();
            if (sign != '=' && sign != '<' && sign != '>') {
                return false;
            }
            deed.sign[i] = sign;
            place++;
            if (!readNumber(4)) {
                return false;
            }
            deed.than[i] = value;
            return true;
        }

        private boolean readField(Deed deed, int i) {
            if (next() == 'a') {
                deed.field[i] = TEST_ALIVE;
                return readWord("alive");
            }
            if (!readWord("y")) {
                return false;
            }
            boolean year = next() == 'e';
            deed.field[i] = year ? TEST_YEAR : TEST_YIELD;
            return readWord(year ? "ear" : "ield");
        }

        private boolean readHouse(Deed deed, int i) {
            int letter = next();
            if (letter < 'a' || letter >= 'a' + HOUSES) {
                return false;
            }
            deed.house[i] = letter - 'a';
            place++;
            return true;
        }

        private boolean readPerson(Deed deed, int i) {
            if (!readWord(" p") || !readNumber(2)) {
                return false;
            }
            deed.root[i] = value;
            return true;
        }

        private boolean readNumber(int mostDigits) {
            value = 0;
            int digits = 0;
            while (digits < mostDigits && next() >= '0' && next() <= '9') {
                value = value * 10 + next() - '0';
                digits++;
                place++;
            }
            return digits > 0;
        }

        private boolean readWord(String word) {
            for (int k = 0; k < word.length(); k++) {
                if (next() != word.charAt(k)) {
                    return false;
                }
                place++;
            }
            return true;
        }

        private int next() {
            return place >= 0 && place < length ? bytes[place] : NONE;
        }
    }

    /** What a deed's yield comes to for each of its ends and for each person, as the last reckon() left it. */
    private static final class Split {
        final boolean[] so = new boolean[MOST_ENDS];
        final int[] toEnd = new int[MOST_ENDS];
        final int[] toPerson = new int[MOST_PERSONS];
        /** As setShares() left it; a share is always 1 / this, since it only ever gets parted; 0: none. */
        final int[] shareOf = new int[MOST_PERSONS];
        int steward = NONE;
        int leftOver = 0;

        /** The kin must have been woken for the year. */
        void reckon(Kin kin, Deed deed, int yield, int year) {
            clear();
            judgeTests(kin, deed, yield, year);
            int rest = yield - payManager(kin, deed, yield);
            rest = payFixed(deed, rest);
            leftOver = rest;
            for (int i = 0; i < deed.ends; i++) {
                if (so[i] && deed.kind[i] == LINE) {
                    rest -= payLine(kin, deed, i);
                }
            }
            for (int i = 0; i < deed.ends; i++) {
                if (deed.kind[i] == REST) {
                    toEnd[i] = rest;
                }
            }
        }

        private void clear() {
            steward = NONE;
            for (int i = 0; i < MOST_ENDS; i++) {
                toEnd[i] = 0;
            }
            for (int p = 0; p < MOST_PERSONS; p++) {
                toPerson[p] = 0;
            }
        }

        private void judgeTests(Kin kin, Deed deed, int yield, int year) {
            kin.clearLine();
            for (int i = 0; i < deed.ends; i++) {
                if (deed.kind[i] == LINE) {
                    kin.addLine(deed.root[i]);
                }
            }
            int alive = kin.aliveMarked();
            for (int i = 0; i < deed.ends; i++) {
                so[i] = deed.testIsSo(i, year, yield, alive);
            }
        }

        private int payManager(Kin kin, Deed deed, int yield) {
            if (deed.ends < 1 || deed.kind[0] != MANAGER || !so[0]) {
                return 0;
            }
            kin.clearLine();
            kin.addLine(deed.root[0]);
            steward = kin.firstBornMarked();
            if (!kin.has(steward)) {
                return 0;
            }
            toEnd[0] = yield * deed.number[0] / HUNDREDTHS;
            toPerson[steward] = toEnd[0];
            return toEnd[0];
        }

        private int payFixed(Deed deed, int before) {
            int rest = before;
            for (int i = 0; i < deed.ends; i++) {
                if (so[i] && deed.kind[i] == FIXED) {
                    toEnd[i] = Math.min(deed.number[i], rest);
                    rest -= toEnd[i];
                }
            }
            return rest;
        }

        private int payLine(Kin kin, Deed deed, int i) {
            setShares(kin, deed.root[i], deed.byHeads[i]);
            for (int p = 0; p < kin.size; p++) {
                int divisor = TWELFTHS * shareOf[p];
                if (divisor > 0) {
                    int amount = leftOver * deed.number[i] / divisor;
                    toPerson[p] += amount;
                    toEnd[i] += amount;
                }
            }
            return toEnd[i];
        }

        /** The kin must have been woken. */
        void setShares(Kin kin, int root, boolean byHeads) {
            for (int p = 0; p < MOST_PERSONS; p++) {
                shareOf[p] = 0;
            }
            if (!kin.has(root) || kin.aliveInLine[root] == 0) {
                return;
            }
            if (byHeads) {
                shareByHeads(kin, root);
            } else {
                shareByStem(kin, root);
            }
        }

        private void shareByHeads(Kin kin, int root) {
            kin.clearLine();
            kin.addLine(root);
            for (int p = 0; p < kin.size; p++) {
                if (kin.inLine[p] && kin.alive[p]) {
                    shareOf[p] = kin.aliveInLine[root];
                }
            }
        }

        private void shareByStem(Kin kin, int root) {
            shareOf[root] = 1;
            for (int p = root + 1; p < kin.size; p++) {
                int parent = kin.parentOf[p];
                if (kin.has(parent) && !kin.alive[parent] && kin.aliveInLine[p] > 0) {
                    shareOf[p] = shareOf[parent] * kin.heirs[parent];
                }
            }
            for (int p = root; p < kin.size; p++) {
                if (!kin.alive[p]) {
                    shareOf[p] = 0;
                }
            }
        }
    }
}
