/** Leases, swaps and counts (promises 25 to 29): a check for each sentence that names an edge. */
public final class LeaseEdgeTest {
    private static final int BEYOND = EndowBook.BEYOND;
    private static final int NO = EndowBook.NO;
    private static final int FULL = EndowBook.FULL;
    private static final Sentences t = new Sentences();

    public static void main(String[] args) {
        leases();
        swaps();
        counts();
        t.endWithExitCode("LeaseEdgeTest");
    }

    private static void leases() {
        t.sentence("isn't leased in any of these YEARS by one that HOLDS", LeaseEdgeTest::overlaps);
        t.sentence("by one that HOLDS: a VOID one bars nothing", LeaseEdgeTest::voidBarsNothing);
        t.sentence("it isn't in RUIN now", LeaseEdgeTest::notInRuin);
        t.sentence("n is LONG at most (3 at first)", LeaseEdgeTest::longAtMost);
        t.sentence("or a judge lets it", LeaseEdgeTest::judged);
        t.sentence("A LEASE ..: BEYOND: THING", LeaseEdgeTest::leaseBeyond);
        t.sentence("NO: YEAR (NOW .. 700)", LeaseEdgeTest::leaseYears);
        t.sentence("n (1 .. 99)", LeaseEdgeTest::leaseLengths);
        t.sentence("its number, from 0 (30 at most); VOID ones count", LeaseEdgeTest::thirtyLeases);
        t.sentence("Of a LEASE: its THING (what = 0) .. HOLDS (3)", LeaseEdgeTest::leaseLooks);
        t.sentence("Of a LEASE ..: BEYOND", LeaseEdgeTest::leasedBeyond);
        t.sentence("Of a LEASE ..: NO", LeaseEdgeTest::leasedWhat);
        t.sentence("LONG (1 .. 99): the one before", LeaseEdgeTest::laws);
    }

    private static void swaps() {
        t.sentence("more than a tenth (cut, of its own) above that of the other one", LeaseEdgeTest::tenths);
        t.sentence("neither is leased in NOW .. by one that HOLDS", LeaseEdgeTest::leasedNow);
        t.sentence("or later by one that HOLDS", LeaseEdgeTest::leasedLater);
        t.sentence("and a judge lets it; else nothing is done", LeaseEdgeTest::swapJudged);
        t.sentence("PARTS GIVEN of the one become those of the other one, and the other way round", LeaseEdgeTest::swappedParts);
        t.sentence("A SWAP: 1 it HOLDS; 0", LeaseEdgeTest::swapAnswers);
        t.sentence("A SWAP: BEYOND", LeaseEdgeTest::swapBeyond);
        t.sentence("NO: a THING and itself", LeaseEdgeTest::swapItself);
    }

    private static void counts() {
        t.sentence("NOW (what = 0) .. UNKNOWN ones (7)", LeaseEdgeTest::eachCount);
        t.sentence("PERSONS that LIVE (5)", LeaseEdgeTest::livingCount);
        t.sentence("LEASES that HOLD (6)", LeaseEdgeTest::holdingCount);
        t.sentence("UNKNOWN ones (7)", LeaseEdgeTest::unknownCount);
        t.sentence("NOW ..: NO", LeaseEdgeTest::countWhat);
    }

    private static void holdsDue(EndowBook x, int lease, String call, int want) {
        t.due(x, "lease " + call, lease);
        t.due(x, "leased " + lease + " 3", want);
    }

    private static void overlaps() {
        // the one that holds has 10, 11 and 12
        int[][] cases = {{9, 1, 1}, {9, 2, 0}, {8, 2, 1}, {8, 3, 0}, {7, 3, 1}, {10, 1, 0}, {11, 1, 0}, {12, 1, 0}, {13, 1, 1}, {10, 3, 0},
            {12, 3, 0}, {13, 3, 1}, {5, 20, 0}, {9, 99, 0}, {12, 99, 0}, {13, 99, 1}, {0, 10, 1}, {0, 11, 0}};
        for (int[] one : cases) {
            EndowBook x = Lines.book("thing 1 1", "thing 1 1", "lease 0 10 3 false");
            holdsDue(x, 1, "0 " + one[0] + " " + one[1] + " true", one[2]);
            t.due(x, "leased 0 3", 1);
            holdsDue(x, 2, "1 " + one[0] + " " + one[1] + " true", 1);
        }
        // by any of those before, in the last year of all too
        EndowBook y = Lines.book("thing 1 1", "lease 0 20 2 false", "lease 0 10 2 false", "lease 0 700 99 true");
        holdsDue(y, 3, "0 21 1 true", 0);
        holdsDue(y, 4, "0 11 1 true", 0);
        holdsDue(y, 5, "0 700 1 true", 0);
        holdsDue(y, 6, "0 698 2 true", 1);
        holdsDue(y, 7, "0 699 1 true", 0);
    }

    private static void voidBarsNothing() {
        EndowBook x = Lines.book("thing 1 1", "lease 0 10 4 false");
        t.due(x, "leased 0 3", 0);
        holdsDue(x, 1, "0 10 3 false", 1);
        holdsDue(x, 2, "0 12 3 false", 0);
        holdsDue(x, 3, "0 13 2 false", 1);
    }

    private static void notInRuin() {
        EndowBook x = Lines.book("thing 1 1", "thing 1 1", "lease 0 0 1 false", "ruin 0 1");
        holdsDue(x, 1, "0 1 1 false", 0);
        holdsDue(x, 2, "0 1 1 true", 0);
        holdsDue(x, 3, "1 1 1 false", 1);
        t.due(x, "leased 0 3", 1);
        Lines.on(x, "ruin 0 0");
        t.due(x, "leased 1 3", 0);
        t.due(x, "leased 2 3", 0);
        holdsDue(x, 4, "0 1 1 false", 1);
        holdsDue(x, 5, "0 0 1 true", 0);
    }

    private static void longAtMost() {
        EndowBook x = Lines.book("thing 1 1");
        holdsDue(x, 0, "0 0 4 false", 0);
        holdsDue(x, 1, "0 0 3 false", 1);
        holdsDue(x, 2, "0 10 1 false", 1);
        Lines.on(x, "law 1");
        holdsDue(x, 3, "0 20 2 false", 0);
        holdsDue(x, 4, "0 20 1 false", 1);
        Lines.on(x, "law 99");
        holdsDue(x, 5, "0 30 99 false", 1);
        Lines.on(x, "law 98");
        holdsDue(x, 6, "0 200 99 false", 0);
        holdsDue(x, 7, "0 200 98 false", 1);
        t.due(x, "leased 5 3", 1);
        t.due(x, "leased 0 3", 0);
    }

    private static void judged() {
        EndowBook x = Lines.book("thing 1 1", "law 1");
        holdsDue(x, 0, "0 0 1 true", 1);
        holdsDue(x, 1, "0 1 2 true", 1);
        holdsDue(x, 2, "0 3 99 true", 1);
        holdsDue(x, 3, "0 200 99 false", 0);
        // he lets it be long, and no more than that
        holdsDue(x, 4, "0 0 1 true", 0);
    }

    private static void leaseBeyond() {
        EndowBook x = new EndowBook();
        t.due(x, "lease 0 0 1 true", BEYOND);
        Lines.on(x, Lines.times(2, "thing 1 1"));
        t.refused(x, BEYOND, "lease 2 0 1 true", "lease -1 0 1 true", "lease MIN 0 1 false", "lease MAX 0 1 false");
        t.due(x, "lease 1 0 1 true", 0);
        Lines.on(x, Lines.times(8, "thing 1 1"));
        t.due(x, "lease 9 0 1 true", 1);
        t.due(x, "lease 10 0 1 true", BEYOND);
    }

    private static void leaseYears() {
        EndowBook x = Lines.book("thing 1 1");
        t.refused(x, NO, "lease 0 -1 1 true", "lease 0 701 1 true", "lease 0 MIN 1 true", "lease 0 MAX 1 true");
        t.due(x, "lease 0 0 1 true", 0);
        t.due(x, "lease 0 700 1 true", 1);
        Lines.on(x, "run 5");
        t.due(x, "lease 0 4 1 true", NO);
        t.due(x, "lease 0 5 1 true", 2);
        Lines.on(x, Lines.times(5, "run 100"));
        Lines.on(x, "run 95");
        t.due(x, "lease 0 599 9 true", NO);
        t.due(x, "lease 0 600 1 true", 3);
        t.due(x, "leased 3 1", 600);
    }

    private static void leaseLengths() {
        EndowBook x = Lines.book("thing 1 1");
        t.refused(x, NO, "lease 0 0 0 true", "lease 0 0 -1 true", "lease 0 0 100 true", "lease 0 0 MIN true", "lease 0 0 MAX true");
        t.refused(x, NO, "lease 0 0 0 false", "lease 0 0 100 false");
        holdsDue(x, 0, "0 0 1 true", 1);
        holdsDue(x, 1, "0 1 99 true", 1);
        holdsDue(x, 2, "0 99 1 true", 0);
        holdsDue(x, 3, "0 100 1 true", 1);
    }

    private static void thirtyLeases() {
        EndowBook x = Lines.book("thing 1 1");
        for (int l = 0; l < 30; l++) {
            t.due(x, "leased " + l + " 0", BEYOND);
            t.due(x, "lease 0 " + l / 2 + " 1 false", l);
            t.due(x, "leased " + l + " 3", l % 2 == 0 ? 1 : 0);
        }
        t.due(x, "count 6", 15);
        t.refused(x, FULL, "lease 0 50 1 true", "lease 0 50 99 false");
        t.due(x, "leased 29 1", 14);
        t.due(x, "leased 30 0", BEYOND);
        t.due(x, "count 6", 15);
        // the last one is looked at with all others
        EndowBook y = Lines.book("thing 5 1", "thing 5 1", "thing 5 1");
        Lines.on(y, Lines.times(29, "lease 0 0 1 true"));
        t.due(y, "swap 1 2 true", 1);
        t.due(y, "lease 2 0 1 true", 29);
        t.due(y, "swap 1 2 true", 0);
        t.due(y, "count 6", 2);
    }

    private static void leaseLooks() {
        EndowBook x = Lines.book("thing 1 1", "thing 1 1", "lease 1 40 5 true", "lease 0 0 4 false");
        int[][] want = {{1, 40, 5, 1}, {0, 0, 4, 0}};
        for (int l = 0; l < 2; l++) {
            for (int what = 0; what < 4; what++) {
                t.due(x, "leased " + l + " " + what, want[l][what]);
            }
        }
        Lines.on(x, "run 100");
        t.due(x, "leased 0 3", 1);
        t.due(x, "leased 0 1", 40);
    }

    private static void leasedBeyond() {
        EndowBook x = Lines.book("thing 1 1");
        t.due(x, "leased 0 0", BEYOND);
        Lines.on(x, "lease 0 0 1 true");
        t.due(x, "leased 0 0", 0);
        t.refused(x, BEYOND, "leased 1 0", "leased -1 0", "leased MIN 0", "leased MAX 0");
    }

    private static void leasedWhat() {
        EndowBook x = Lines.book("thing 1 1", "lease 0 0 1 true");
        t.refused(x, NO, "leased 0 -1", "leased 0 4", "leased 0 MIN", "leased 0 MAX");
        t.due(x, "leased 0 3", 1);
    }

    private static void laws() {
        EndowBook x = new EndowBook();
        t.refused(x, NO, "law 0", "law 100", "law -1", "law MIN", "law MAX");
        t.due(x, "law 1", 3);
        t.due(x, "law 99", 1);
        t.refused(x, NO, "law 0", "law 100");
        t.due(x, "law 99", 99);
        t.due(x, "law 3", 99);
    }

    private static void tenths() {
        int[][] cases = {{1, 1, 1}, {1, 2, 0}, {8, 9, 0}, {9, 9, 1}, {9, 10, 1}, {8, 10, 0}, {10, 11, 1}, {10, 12, 0}, {17, 19, 0}, {18, 19, 1},
            {18, 20, 1}, {17, 20, 0}, {98, 109, 0}, {99, 109, 1}, {90, 100, 1}, {89, 100, 0}, {90, 101, 0}, {100, 111, 1}, {100, 112, 0},
            {9000, 9999, 1}, {8999, 9999, 0}, {9999, 9999, 1}, {1, 9999, 0}};
        for (int[] one : cases) {
            EndowBook x = Lines.book("thing " + one[0] + " 1", "thing " + one[1] + " 1", "read rest a", "part 0 0 1");
            t.due(x, "swap 0 1 true", one[2]);
            t.due(x, "parts 1 0", one[2]);
            EndowBook y = Lines.book("thing " + one[0] + " 1", "thing " + one[1] + " 1", "read rest a", "part 0 0 1");
            t.due(y, "swap 1 0 true", one[2]);
            t.due(y, "parts 0 0", 1 - one[2]);
        }
    }

    private static EndowBook twoThings() {
        return Lines.book("thing 5 1", "thing 5 1", "thing 5 1", "read rest a", "part 0 0 1");
    }

    private static void leasedNow() {
        for (int thing = 0; thing < 2; thing++) {
            EndowBook x = twoThings();
            Lines.on(x, "lease " + thing + " 0 3 false");
            t.refused(x, 0, "swap 0 1 true", "swap 1 0 true");
            Lines.on(x, "run 2");
            t.refused(x, 0, "swap 0 1 true", "swap 1 0 true");
            t.due(x, "parts 0 0", 1);
            Lines.on(x, "run 1");
            t.due(x, "swap 0 1 true", 1);
            t.due(x, "parts 0 0", 0);
        }
        EndowBook last = twoThings();
        Lines.on(last, Lines.times(6, "run 100"));
        t.due(last, "swap 0 1 true", 1);
        Lines.on(last, "lease 0 600 1 false");
        t.due(last, "swap 0 1 true", 0);
    }

    private static void leasedLater() {
        for (int year : new int[] {1, 50, 699, 700}) {
            for (int thing = 0; thing < 2; thing++) {
                EndowBook x = twoThings();
                Lines.on(x, "lease " + thing + " " + year + " 1 false");
                t.refused(x, 0, "swap 0 1 true", "swap 1 0 true");
                t.due(x, "parts 0 0", 1);
            }
        }
        // a void one bars nothing, nor does one of a third thing
        EndowBook x = twoThings();
        Lines.on(x, "lease 0 0 9 false", "lease 1 700 9 false", "lease 2 0 3 false");
        t.due(x, "swap 0 1 true", 1);
        t.due(x, "swap 1 2 true", 0);
    }

    private static void swapJudged() {
        EndowBook x = twoThings();
        t.refused(x, 0, "swap 0 1 false", "swap 1 0 false");
        t.due(x, "parts 0 0", 1);
        t.due(x, "parts 1 0", 0);
        t.due(x, "swap 0 1 true", 1);
        t.due(x, "parts 0 0", 0);
        t.due(x, "parts 1 0", 1);
    }

    private static void swappedParts() {
        EndowBook x = Lines.book("thing 10 100", "thing 11 240");
        Lines.on(x, Lines.times(6, "read rest a"));
        int[][] given = {{1, 0, 2, 3, 0, 4}, {0, 5, 0, 1, 2, 1}};
        for (int thing = 0; thing < 2; thing++) {
            for (int d = 0; d < 6; d++) {
                Lines.on(x, "part " + thing + " " + d + " " + given[thing][d]);
            }
        }
        Lines.on(x, "ruin 1 1", "swap 0 1 true");
        for (int thing = 0; thing < 2; thing++) {
            for (int d = 0; d < 6; d++) {
                t.due(x, "parts " + thing + " " + d, given[1 - thing][d]);
            }
        }
        t.due(x, "parts 0 NONE", 3);
        t.due(x, "parts 1 NONE", 2);
        // the things stay what they are
        t.due(x, "yields 1", 41);
        t.due(x, "tell 0 0 10", 10);
        t.due(x, "tell 1 0 11", 11);
        t.due(x, "tell 0 1 100", 100);
        t.due(x, "tell 1 1 240", 240);
        t.due(x, "ruin 1 0", 1);
        t.due(x, "ruin 0 0", 0);
        t.due(x, "swap 1 0 true", 1);
        for (int d = 0; d < 6; d++) {
            t.due(x, "parts 0 " + d, given[0][d]);
        }
    }

    private static void swapAnswers() {
        EndowBook x = twoThings();
        t.due(x, "swap 0 1 true", 1);
        t.due(x, "swap 0 1 false", 0);
        t.due(x, "parts 1 0", 1);
        // 0 is no refusal
        for (int by = -2; by >= -8; by--) {
            t.due(x, "status " + by, 0);
        }
    }

    private static void swapBeyond() {
        EndowBook x = new EndowBook();
        t.due(x, "swap 0 1 true", BEYOND);
        t.due(x, "swap 0 0 true", BEYOND);
        Lines.on(x, "thing 5 1", "thing 5 1");
        t.refused(x, BEYOND, "swap 0 2 true", "swap 2 0 true", "swap -1 0 true", "swap 0 -1 false", "swap 2 2 true", "swap -1 -1 true");
        t.refused(x, BEYOND, "swap MIN 0 true", "swap 0 MAX true");
        Lines.on(x, Lines.times(8, "thing 5 1"));
        t.due(x, "swap 0 9 true", 1);
        t.refused(x, BEYOND, "swap 0 10 true", "swap 10 9 true");
    }

    private static void swapItself() {
        EndowBook x = twoThings();
        t.refused(x, NO, "swap 0 0 true", "swap 1 1 true", "swap 0 0 false", "swap 2 2 true");
        t.due(x, "parts 0 0", 1);
    }

    private static void eachCount() {
        EndowBook x = Lines.book("person NONE 0", "person NONE 0", "thing 1 1", "thing 1 1", "thing 1 1", "read rest a", "type fix 1",
            "lease 0 0 1 false", "lease 1 0 1 false", "lease 1 0 4 true", "unknown 1 1", "run 9");
        int[] want = {9, 2, 3, 1, 5, 1, 2, 1};
        for (int what = 0; what < want.length; what++) {
            t.due(x, "count " + what, want[what]);
        }
    }

    private static void livingCount() {
        EndowBook x = Lines.book("person NONE 0", "person NONE 1", "person NONE 0", "death 2 1", "person NONE 0", "unknown 3 1");
        t.due(x, "count 5", 2);
        Lines.on(x, "run 1");
        t.due(x, "count 5", 2);
        Lines.on(x, "taken 3 1");
        t.due(x, "count 5", 3);
        Lines.on(x, "death 0 0", "death 1 1", "death 3 0");
        t.due(x, "count 5", 0);
        EndowBook all = Lines.book(Lines.times(30, "person NONE 0"));
        t.due(all, "count 5", 30);
    }

    private static void holdingCount() {
        EndowBook x = Lines.book("thing 1 1", "lease 0 5 1 false");
        t.due(x, "count 6", 1);
        Lines.on(x, "lease 0 5 1 false");
        t.due(x, "count 6", 1);
        Lines.on(x, "lease 0 700 9 true", "ruin 0 1", "run 100");
        t.due(x, "count 6", 2);
    }

    private static void unknownCount() {
        EndowBook x = Lines.book("person NONE 700", "person NONE 0");
        t.due(x, "count 7", 0);
        Lines.on(x, "unknown 0 1", "unknown 1 1", "taken 1 1");
        t.due(x, "count 7", 2);
        Lines.on(x, "death 0 NONE");
        t.due(x, "count 7", 1);
        Lines.on(x, "unknown 1 0");
        t.due(x, "count 7", 0);
    }

    private static void countWhat() {
        EndowBook x = new EndowBook();
        t.refused(x, NO, "count -1", "count 8", "count MIN", "count MAX");
        t.due(x, "count 7", 0);
        t.due(x, "status -7", 4);
    }
}
