/** Things and their parts (promises 7 to 11): a check for each sentence that names an edge. */
public final class ThingEdgeTest {
    private static final int BEYOND = EndowBook.BEYOND;
    private static final int NO = EndowBook.NO;
    private static final int FULL = EndowBook.FULL;
    private static final Sentences t = new Sentences();

    public static void main(String[] args) {
        t.sentence("No .. THINGS", ThingEdgeTest::noThings);
        t.sentence("THINGS 0 .. 9 as they come", ThingEdgeTest::ten);
        t.sentence("a WORTH (1 .. 9999)", ThingEdgeTest::worths);
        t.sentence("a YIELD a YEAR (0 .. 9999", ThingEdgeTest::yields);
        t.sentence("0 in RUIN", ThingEdgeTest::ruinYieldsNothing);
        t.sentence("WORTH (what = 0) .. becomes v: the one before", ThingEdgeTest::tellWorth);
        t.sentence("or YIELD (1) becomes v: the one before", ThingEdgeTest::tellYield);
        t.sentence("Of a THING ..: NO", ThingEdgeTest::tellWhat);
        t.sentence("A THING is in RUIN (1), or not (0): what it was", ThingEdgeTest::ruinBefore);
        t.sentence("A THING is in RUIN ..: NO", ThingEdgeTest::ruinFlag);
        t.sentence("Each has 12 PARTS", ThingEdgeTest::twelve);
        t.sentence("PARTS .. GIVEN to a DEED more (n 1 .. 12)", ThingEdgeTest::partNumbers);
        t.sentence("GIVEN ..: how many it has of it", ThingEdgeTest::partSums);
        t.sentence("FULL: not so many are left", ThingEdgeTest::partsLeft);
        t.sentence("PARTS .. GIVEN .. BEYOND", ThingEdgeTest::partBeyond);
        t.sentence("(deed = NONE: how many are left)", ThingEdgeTest::partsOfNone);
        t.endWithExitCode("ThingEdgeTest");
    }

    private static void noThings() {
        EndowBook x = Lines.book("read rest a");
        t.due(x, "count 2", 0);
        t.due(x, "yields 0", 0);
        t.refused(x, BEYOND, "tell 0 0 1", "ruin 0 1", "part 0 0 1", "parts 0 NONE", "lease 0 0 1 true", "swap 0 1 true");
    }

    private static void ten() {
        EndowBook x = new EndowBook();
        for (int k = 0; k < 10; k++) {
            t.due(x, "tell " + k + " 0 1", BEYOND);
            t.due(x, "thing " + (k + 1) + " " + k, k);
            t.due(x, "count 2", k + 1);
        }
        t.refused(x, FULL, "thing 1 0", "thing 9999 9999");
        t.due(x, "count 2", 10);
        t.due(x, "tell 9 0 5", 10);
        t.due(x, "tell 9 1 5", 9);
        t.refused(x, BEYOND, "tell 10 0 5", "tell -1 0 5", "tell MIN 0 5", "tell MAX 0 5");
    }

    private static void worths() {
        EndowBook x = new EndowBook();
        t.refused(x, NO, "thing 0 5", "thing -1 5", "thing 10000 5", "thing MIN 5", "thing MAX 5");
        t.due(x, "thing 1 5", 0);
        t.due(x, "thing 9999 5", 1);
        t.refused(x, NO, "tell 0 0 0", "tell 0 0 -1", "tell 0 0 10000", "tell 0 0 MIN", "tell 0 0 MAX");
        t.due(x, "tell 0 0 9999", 1);
        t.due(x, "tell 1 0 1", 9999);
        t.due(x, "tell 0 0 2", 9999);
        t.due(x, "tell 1 0 2", 1);
    }

    private static void yields() {
        EndowBook x = new EndowBook();
        t.refused(x, NO, "thing 5 -1", "thing 5 10000", "thing 5 MIN", "thing 5 MAX");
        t.due(x, "thing 5 0", 0);
        t.due(x, "thing 5 9999", 1);
        t.refused(x, NO, "tell 0 1 -1", "tell 0 1 10000", "tell 0 1 MIN", "tell 0 1 MAX");
        t.due(x, "tell 0 1 9999", 0);
        t.due(x, "tell 1 1 0", 9999);
        t.due(x, "tell 0 1 1", 9999);
        t.due(x, "tell 1 1 1", 0);
    }

    private static void ruinYieldsNothing() {
        EndowBook x = Lines.book("read rest a", "thing 1 9999", "thing 1 12", "part 0 0 12", "part 1 0 1");
        t.due(x, "yields 0", 10000);
        Lines.on(x, "ruin 0 1");
        t.due(x, "yields 0", 1);
        t.due(x, "parts 0 0", 12);
        Lines.on(x, "run 1");
        t.due(x, "account 0 true", 1);
        Lines.on(x, "ruin 1 1");
        t.due(x, "yields 0", 0);
        Lines.on(x, "ruin 0 0");
        t.due(x, "yields 0", 9999);
    }

    private static void tellWorth() {
        EndowBook x = Lines.book("thing 10 20", "thing 30 40");
        t.due(x, "tell 0 0 50", 10);
        t.due(x, "tell 0 0 60", 50);
        t.due(x, "tell 0 1 20", 20);
        t.due(x, "tell 1 0 30", 30);
    }

    private static void tellYield() {
        EndowBook x = Lines.book("thing 10 20", "thing 30 40");
        t.due(x, "tell 1 1 50", 40);
        t.due(x, "tell 1 1 60", 50);
        t.due(x, "tell 1 0 30", 30);
        t.due(x, "tell 0 1 20", 20);
        // the two have edges of their own
        t.due(x, "tell 0 0 0", NO);
        t.due(x, "tell 0 1 0", 20);
    }

    private static void tellWhat() {
        EndowBook x = Lines.book("thing 10 20");
        t.refused(x, NO, "tell 0 -1 5", "tell 0 2 5", "tell 0 MIN 5", "tell 0 MAX 5");
        t.due(x, "tell 0 0 1", 10);
        t.due(x, "tell 0 1 1", 20);
    }

    private static void ruinBefore() {
        EndowBook x = Lines.book("thing 1 1", "thing 1 1");
        t.due(x, "ruin 0 0", 0);
        t.due(x, "ruin 0 1", 0);
        t.due(x, "ruin 0 1", 1);
        t.due(x, "ruin 1 0", 0);
        t.due(x, "ruin 0 0", 1);
        t.due(x, "ruin 0 0", 0);
        t.refused(x, BEYOND, "ruin 2 1", "ruin -1 1", "ruin MIN 1", "ruin MAX 1");
    }

    private static void ruinFlag() {
        EndowBook x = Lines.book("thing 1 1");
        t.refused(x, NO, "ruin 0 -1", "ruin 0 2", "ruin 0 MIN", "ruin 0 MAX");
        t.due(x, "ruin 0 1", 0);
        t.due(x, "ruin 0 2", NO);
        t.due(x, "ruin 0 1", 1);
    }

    private static void twelve() {
        EndowBook x = Lines.book("thing 1 1", "thing 1 1", "read rest a", "read rest b");
        t.due(x, "parts 0 NONE", 12);
        t.due(x, "parts 0 0", 0);
        t.due(x, "part 0 0 12", 12);
        t.due(x, "parts 0 NONE", 0);
        t.due(x, "parts 1 NONE", 12);
        for (int n = 1; n <= 12; n++) {
            t.due(x, "part 1 1 1", n);
            t.due(x, "parts 1 NONE", 12 - n);
        }
        t.due(x, "part 1 1 1", FULL);
    }

    private static void partNumbers() {
        EndowBook x = Lines.book("thing 1 1", "thing 1 1", "read rest a");
        t.refused(x, NO, "part 0 0 0", "part 0 0 -1", "part 0 0 13", "part 0 0 MIN", "part 0 0 MAX");
        t.due(x, "parts 0 0", 0);
        t.due(x, "part 0 0 1", 1);
        t.due(x, "part 1 0 12", 12);
        t.refused(x, NO, "part 1 0 13", "part 1 0 0");
    }

    private static void partSums() {
        EndowBook x = Lines.book("thing 1 1", "thing 1 1", "read rest a", "read rest a");
        t.due(x, "part 0 0 2", 2);
        t.due(x, "part 0 1 3", 3);
        t.due(x, "part 1 0 4", 4);
        t.due(x, "part 0 0 5", 7);
        t.due(x, "part 0 1 2", 5);
        t.due(x, "parts 0 0", 7);
        t.due(x, "parts 1 0", 4);
        t.due(x, "parts 1 1", 0);
    }

    private static void partsLeft() {
        EndowBook x = Lines.book("thing 1 1", "read rest a", "read rest a", "part 0 0 7");
        t.refused(x, FULL, "part 0 1 6", "part 0 0 6", "part 0 1 12");
        t.due(x, "parts 0 NONE", 5);
        t.due(x, "part 0 1 5", 5);
        t.refused(x, FULL, "part 0 1 1", "part 0 0 1");
        t.due(x, "parts 0 0", 7);
        t.due(x, "parts 0 1", 5);
    }

    private static void partBeyond() {
        EndowBook x = Lines.book("thing 1 1");
        t.due(x, "part 0 0 1", BEYOND);
        for (int d = 0; d < 6; d++) {
            Lines.on(x, "read rest a");
            t.due(x, "part 0 " + d + " 1", 1);
            t.due(x, "part 0 " + (d + 1) + " 1", BEYOND);
        }
        t.due(x, "parts 0 NONE", 6);
        t.due(x, "parts 0 5", 1);
        t.refused(x, BEYOND, "part 0 NONE 1", "part 1 0 1", "part -1 0 1", "part 0 MIN 1", "part 0 MAX 1", "part MAX 0 1");
        t.refused(x, BEYOND, "parts 0 6", "parts 0 -2", "parts 1 0", "parts -1 0", "parts MIN 0", "parts 0 MAX");
    }

    private static void partsOfNone() {
        EndowBook x = Lines.book("thing 1 1");
        t.due(x, "parts 0 NONE", 12);
        t.refused(x, BEYOND, "parts 0 -2", "parts 0 0", "parts 1 NONE", "parts -1 NONE");
        Lines.on(x, "read rest a", "part 0 0 11");
        t.due(x, "parts 0 NONE", 1);
        Lines.on(x, "part 0 0 1");
        t.due(x, "parts 0 NONE", 0);
    }
}
