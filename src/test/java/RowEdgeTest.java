/** The row and the status (promises 30 to 34): a check for each sentence that names an edge. */
public final class RowEdgeTest {
    private static final int MISSING = EndowBook.MISSING;
    private static final int BEYOND = EndowBook.BEYOND;
    private static final int BELOW = EndowBook.BELOW;
    private static final int COPY = EndowBook.COPY;
    private static final int NO = EndowBook.NO;
    private static final Sentences t = new Sentences();

    public static void main(String[] args) {
        t.sentence("(at first it is missing)", RowEdgeTest::missingAtFirst);
        t.sentence("THE ROW becomes what each PERSON would get of a DEED: how many", RowEdgeTest::laid);
        t.sentence("THE ROW of no PERSONS", RowEdgeTest::emptyRow);
        t.sentence("THE ROW of 30 PERSONS", RowEdgeTest::longestRow);
        t.sentence("THE ROW ..: BEYOND", RowEdgeTest::layBeyond);
        t.sentence("THE ROW is missing: 1 if it was there, else 0", RowEdgeTest::torn);
        t.sentence("Number i of THE ROW. MISSING, BEYOND", RowEdgeTest::rowNumbers);
        t.sentence("from place i on, come to its place j on (as they were): n", RowEdgeTest::copies);
        t.sentence("MISSING", RowEdgeTest::copyMissing);
        t.sentence("BELOW: n", RowEdgeTest::copyBelow);
        t.sentence("COPY: i or j below 0", RowEdgeTest::copyPlaceBelow);
        t.sentence("i + n or j + n above how many there are", RowEdgeTest::copyAbove);
        t.sentence("How many calls were refused by an answer -2 .. -8", RowEdgeTest::statusOfEach);
        t.sentence("(of those that tell 0 by what they tell)", RowEdgeTest::statusOfZeros);
        t.sentence("How many calls ..: NO: another number", RowEdgeTest::statusNo);
        t.sentence("answers that are no refusals", RowEdgeTest::statusOfAnswers);
        t.endWithExitCode("RowEdgeTest");
    }

    /** Six persons of whom each has a line end or none: the row is 10, 20, 30, 40, 0, 0. */
    private static EndowBook laidBook() {
        EndowBook x = Lines.book(Lines.times(6, "person NONE 0"));
        Lines.on(x, "thing 1 120", "read line 1 p0 stem; line 2 p1 stem; line 3 p2 stem; line 4 p3 stem; rest a", "part 0 0 12", "lay 0");
        return x;
    }

    private static void rowDue(EndowBook x, int... want) {
        for (int i = 0; i < want.length; i++) {
            t.due(x, "row " + i, want[i]);
        }
        t.due(x, "row " + want.length, BEYOND);
    }

    private static void missingAtFirst() {
        EndowBook x = Lines.book("person NONE 0", "read rest a");
        t.refused(x, MISSING, "row 0", "row -1", "row 1", "copy 0 0 0", "copy 0 0 1");
        t.due(x, "tear", 0);
        t.due(x, "tear", 0);
        t.due(x, "row 0", MISSING);
    }

    private static void laid() {
        EndowBook x = laidBook();
        rowDue(x, 10, 20, 30, 40, 0, 0);
        // it stays as it is until the next lay
        Lines.on(x, "person NONE 0", "run 1", "death 0 1", "tell 0 1 240");
        rowDue(x, 10, 20, 30, 40, 0, 0);
        t.due(x, "lay 0", 7);
        rowDue(x, 0, 40, 60, 80, 0, 0, 0);
        Lines.on(x, "read man 50 p5; rest b", "thing 1 8", "part 1 1 12");
        t.due(x, "lay 1", 7);
        rowDue(x, 0, 0, 0, 0, 0, 4, 0);
    }

    private static void emptyRow() {
        EndowBook x = Lines.book("read rest a");
        t.due(x, "lay 0", 0);
        t.refused(x, BEYOND, "row 0", "row -1");
        t.due(x, "copy 0 0 0", 0);
        t.refused(x, COPY, "copy 0 0 1", "copy 1 0 0", "copy 0 1 0", "copy -1 0 0");
        t.due(x, "tear", 1);
        t.due(x, "row 0", MISSING);
    }

    private static void longestRow() {
        EndowBook x = Lines.book(Lines.times(30, "person NONE 0"));
        Lines.on(x, "thing 1 12", "read man 100 p29; rest a", "part 0 0 12");
        t.due(x, "lay 0", 30);
        t.due(x, "row 29", 12);
        t.due(x, "row 28", 0);
        t.due(x, "row 30", BEYOND);
        t.due(x, "copy 0 0 30", 30);
        t.due(x, "copy 29 0 1", 1);
        t.due(x, "row 0", 12);
        t.due(x, "copy 0 1 29", 29);
        t.due(x, "row 29", 0);
        t.due(x, "row 1", 12);
        t.refused(x, COPY, "copy 0 0 31", "copy 0 1 30", "copy 1 0 30");
    }

    private static void layBeyond() {
        EndowBook x = Lines.book("person NONE 0");
        t.due(x, "lay 0", BEYOND);
        t.due(x, "row 0", MISSING);
        for (int d = 0; d < 6; d++) {
            Lines.on(x, "read rest a");
            t.due(x, "lay " + d, 1);
            t.due(x, "lay " + (d + 1), BEYOND);
            t.due(x, "row 0", 0);
        }
        t.refused(x, BEYOND, "lay -1", "lay MIN", "lay MAX");
    }

    private static void torn() {
        EndowBook x = laidBook();
        t.due(x, "tear", 1);
        t.due(x, "tear", 0);
        t.refused(x, MISSING, "row 0", "copy 0 0 1");
        t.due(x, "lay 0", 6);
        t.due(x, "row 3", 40);
        t.due(x, "tear", 1);
    }

    private static void rowNumbers() {
        EndowBook x = laidBook();
        t.due(x, "row 0", 10);
        t.due(x, "row 5", 0);
        t.refused(x, BEYOND, "row 6", "row -1", "row MIN", "row MAX");
        Lines.on(x, "tear");
        t.refused(x, MISSING, "row 0", "row 6", "row -1", "row MIN", "row MAX");
    }

    private static void copyDue(String call, int n, int... want) {
        EndowBook x = laidBook();
        t.due(x, "copy " + call, n);
        rowDue(x, want);
    }

    private static void copies() {
        copyDue("0 1 3", 3, 10, 10, 20, 30, 0, 0);
        copyDue("0 2 4", 4, 10, 20, 10, 20, 30, 40);
        copyDue("1 0 5", 5, 20, 30, 40, 0, 0, 0);
        copyDue("2 1 3", 3, 10, 30, 40, 0, 0, 0);
        copyDue("0 5 1", 1, 10, 20, 30, 40, 0, 10);
        copyDue("5 0 1", 1, 0, 20, 30, 40, 0, 0);
        copyDue("0 0 6", 6, 10, 20, 30, 40, 0, 0);
        copyDue("3 3 1", 1, 10, 20, 30, 40, 0, 0);
        copyDue("0 1 5", 5, 10, 10, 20, 30, 40, 0);
        copyDue("0 4 0", 0, 10, 20, 30, 40, 0, 0);
        copyDue("6 6 0", 0, 10, 20, 30, 40, 0, 0);
        copyDue("0 6 0", 0, 10, 20, 30, 40, 0, 0);
        copyDue("6 0 0", 0, 10, 20, 30, 40, 0, 0);
    }

    private static void copyMissing() {
        EndowBook x = laidBook();
        Lines.on(x, "tear");
        t.refused(x, MISSING, "copy 0 0 0", "copy 0 0 6", "copy 0 0 -1", "copy -1 9 MIN", "copy MAX MAX MAX");
    }

    private static void copyBelow() {
        EndowBook x = laidBook();
        t.refused(x, BELOW, "copy 0 0 -1", "copy 6 6 -1", "copy 0 0 MIN", "copy -1 0 -1", "copy 9 0 -1", "copy MIN MIN MIN");
        rowDue(x, 10, 20, 30, 40, 0, 0);
    }

    private static void copyPlaceBelow() {
        EndowBook x = laidBook();
        t.refused(x, COPY, "copy -1 0 1", "copy 0 -1 1", "copy -1 0 0", "copy 0 -1 0", "copy -1 -1 2", "copy MIN 0 1", "copy 0 MIN 1");
        rowDue(x, 10, 20, 30, 40, 0, 0);
    }

    private static void copyAbove() {
        EndowBook x = laidBook();
        t.refused(x, COPY, "copy 0 0 7", "copy 1 0 6", "copy 0 1 6", "copy 6 0 1", "copy 0 6 1", "copy 7 0 0", "copy 0 7 0", "copy 5 0 2", "copy 0 5 2");
        t.refused(x, COPY, "copy MAX 0 1", "copy 0 MAX 1", "copy 1 0 MAX", "copy 0 1 MAX", "copy MAX MAX MAX", "copy MAX 0 0", "copy 0 MAX 0");
        rowDue(x, 10, 20, 30, 40, 0, 0);
    }

    private static void statusOfEach() {
        String[] calls = {"row 0", "yields 1", "run -1", "taken 0 1", "copy 0 0 9", "run 0", "part 0 0 1"};
        for (int k = 0; k < calls.length; k++) {
            EndowBook x = Lines.book("person NONE 0", "thing 1 1", "read rest a", "part 0 0 12");
            if (k > 0) {
                Lines.on(x, "lay 0");
            }
            for (int n = 0; n < 3; n++) {
                for (int other = 0; other < calls.length; other++) {
                    t.due(x, "status " + (MISSING - other), other == k ? n : 0);
                }
                t.due(x, calls[k], MISSING - k);
            }
            t.due(x, "status " + (MISSING - k), 3);
        }
    }

    private static void statusOfZeros() {
        EndowBook x = Lines.book("person NONE 0", "read rest a");
        t.due(x, "share 0 0 0 true", 0);
        t.due(x, "status -5", 1);
        t.due(x, "share 1 0 0 true", 0);
        t.due(x, "status -3", 1);
        t.due(x, "account 8 true", 0);
        t.due(x, "account 1 false", 0);
        t.due(x, "status -3", 3);
        t.due(x, "status -5", 1);
        t.due(x, "account 0 false", 0);
        t.due(x, "account 0 true", 0);
        t.due(x, "status -3", 3);
    }

    private static void statusNo() {
        EndowBook x = new EndowBook();
        t.due(x, "status -2", 0);
        t.due(x, "status -8", 0);
        t.refused(x, NO, "status -1", "status -9", "status 0", "status 2", "status 8", "status MIN", "status MAX");
        t.due(x, "status -7", 7);
        t.due(x, "status -7", 7);
        t.due(x, "status -2", 0);
        t.due(x, "status -8", 0);
    }

    private static void statusOfAnswers() {
        // none, 0 and faults from the first place on
        EndowBook x = Lines.book("person NONE 0", "death 0 NONE", "look 0 0", "look 0 2", "read rest a", "manager 0", "tear", "swap 0 1 true", "deed",
            "read rest", "deed", "wipe");
        t.due(x, "status -3", 1);
        for (int by : new int[] {-2, -4, -5, -6, -7, -8}) {
            t.due(x, "status " + by, 0);
        }
    }
}
