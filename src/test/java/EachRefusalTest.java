import java.util.ArrayList;
import java.util.List;

/**
 * Each refusal of each call: which of several comes first, that status() tells of it and of no other, and that a refused
 * call changes nothing else that can be seen.
 */
public final class EachRefusalTest {
    private static final int MISSING = EndowBook.MISSING;
    private static final int BEYOND = EndowBook.BEYOND;
    private static final int BELOW = EndowBook.BELOW;
    private static final int KIND = EndowBook.KIND;
    private static final int COPY = EndowBook.COPY;
    private static final int NO = EndowBook.NO;
    private static final int FULL = EndowBook.FULL;
    private static final int CODES = 7;
    private static final Checks checks = new Checks();

    /** Three persons, two things, two deeds, two leases; the tape waits for "; rest b". */
    private static final String[] SMALL = {
        "person NONE 0", "person 0 1", "person 0 2", "death 0 4", "unknown 2 1", "taken 2 1", "thing 100 1200", "thing 105 240",
        "read man 10 p0; line 6 p0 stem if year>1; line 3 p1 heads; fix 50 c; rest a", "read rest d", "part 0 0 7", "part 0 1 2",
        "part 1 1 12", "lease 1 1 2 false", "lease 1 1 1 false", "law 5", "run 3", "lay 0", "type fix 12 b",
    };

    public static void main(String[] args) {
        persons();
        things();
        tape();
        yields();
        years();
        leases();
        rows();
        checks.endWithExitCode("EachRefusalTest");
    }

    private static void persons() {
        small(BEYOND, "person 3 1", "person -2 1", "person 3 701", "person 3 -1");
        small(NO, "person NONE 701", "person NONE -1", "person 1 0");
        full(BEYOND, "person 30 0", "person 30 701", "person -2 0");
        full(NO, "person NONE 701", "person 29 -1");
        full(FULL, "person NONE 0", "person 29 700");
        small(BEYOND, "death 3 5", "death -1 5", "death 3 701");
        small(NO, "death 0 701", "death 1 0", "death 0 -2", "death 2 1");
        small(BEYOND, "unknown 3 1", "unknown -1 0", "unknown 3 2");
        small(NO, "unknown 0 2", "unknown 2 -1");
        full(BEYOND, "unknown 30 1", "unknown 30 2");
        full(NO, "unknown 0 2", "unknown 29 -1");
        full(FULL, "unknown 0 1", "unknown 24 1");
        small(BEYOND, "taken 3 1", "taken -1 0", "taken 3 2");
        small(KIND, "taken 0 0", "taken 1 1", "taken 0 2", "taken 1 -1");
        small(NO, "taken 2 2", "taken 2 -1");
        small(BEYOND, "look 3 0", "look -1 0", "look 3 7");
        small(NO, "look 0 7", "look 2 -1");
    }

    private static void things() {
        small(NO, "thing 0 5", "thing 10000 5", "thing 5 -1", "thing 5 10000", "thing 0 -1");
        full(NO, "thing 0 5", "thing 5 10000");
        full(FULL, "thing 1 0", "thing 9999 9999");
        small(BEYOND, "tell 2 0 5", "tell -1 1 5", "tell 2 2 5", "tell 2 0 0");
        small(NO, "tell 0 2 5", "tell 0 -1 5", "tell 0 0 0", "tell 1 0 10000", "tell 0 1 -1", "tell 1 1 10000");
        small(BEYOND, "ruin 2 1", "ruin -1 0", "ruin 2 2");
        small(NO, "ruin 0 2", "ruin 1 -1");
        small(BEYOND, "part 2 0 1", "part 0 2 1", "part 0 NONE 1", "part -1 0 1", "part 2 0 13", "part 0 2 0");
        small(NO, "part 0 0 0", "part 0 0 13", "part 1 1 13", "part 1 1 -1");
        small(FULL, "part 0 0 4", "part 0 1 12", "part 1 0 1");
        full(BEYOND, "part 10 0 12", "part 0 6 12");
        full(FULL, "part 0 0 1", "part 9 5 12");
        small(BEYOND, "parts 2 0", "parts 0 2", "parts 0 -2", "parts -1 NONE", "parts 2 NONE");
    }

    private static void tape() {
        small(BELOW, "feed 0 -1", "feed 0 MIN");
        small(NO, "feed 0 5", "feed 0 MAX");
        full(BELOW, "feed 0 -1");
        full(NO, "feed 0 5");
        full(FULL, "feed 0 1", "feed 0 4");
        full(FULL, "deed");
        refusedAfter(FULL, "deed", with(FULL_BOOK, "type man 101 p0; rest a"));
        refusedAfter(FULL, "deed", with(FULL_BOOK, "type x"));
        refusedAfter(FULL, "deed", with(FULL_BOOK, "wipe"));
        refusedAfter(NO, "deed", with(SMALL, "type man 101 p0; rest a"));
        refusedAfter(NO, "deed", with(SMALL, "type line 13 p0 stem; rest a"));
        refusedAfter(NO, "deed", with(SMALL, "type line 1 p3 stem if year=9; rest a"));
        refusedAfter(NO, "deed", with(SMALL, "type man 101 p7; line 13 p9 heads; rest a"));
        refusedAfter(-10, "deed", with(SMALL, "wipe"));
        refusedAfter(-10 - 8, "deed", SMALL);
        refusedAfter(-10 - 12, "deed", with(SMALL, "type man 101 p7; x"));
        refusedAfter(-10 - 38, "deed", with(SMALL, "type man 9 p0 if year=1; line 1 p0 heads; fox"));
        small(BEYOND, "end 2 NONE 0", "end -1 0 0", "end 0 5 0", "end 0 -2 0", "end 1 1 6", "end 2 0 6", "end 0 5 -1");
        small(KIND, "end 0 4 1", "end 0 3 2", "end 0 4 2", "end 0 0 3", "end 0 1 3", "end 0 0 4", "end 0 3 4", "end 0 4 4");
        small(NO, "end 0 0 6", "end 0 4 -1", "end 1 0 MAX");
    }

    private static void yields() {
        for (String name : new String[] {"yields", "manager", "left", "lay"}) {
            small(BEYOND, name + " 2", name + " -1", name + " MAX");
        }
        small(BEYOND, "gets 2 0", "gets 0 5", "gets 1 1", "gets 0 NONE");
        small(BEYOND, "due 2 0", "due 0 3", "due -1 0", "due 0 -1");
        small(BEYOND, "bound 2 0 true", "bound 0 3 false", "bound -1 0 false", "bound 0 -1 true");
        toldByZero(BEYOND, "share 2 1 0 true", "share 0 5 0 false", "share 0 1 3 true", "share 0 4 3 true", "share 0 NONE 0 false");
        toldByZero(KIND, "share 0 0 0 true", "share 0 3 1 false", "share 0 4 0 false", "share 1 0 0 true");
        toldByZero(BEYOND, "account 3 false", "account -1 false", "account 8 true", "account -1 true");
    }

    private static void years() {
        small(BELOW, "run -1", "run MIN");
        small(NO, "run 0", "run 101", "run MAX");
        full(BELOW, "run -1");
        full(NO, "run 0", "run 101");
        full(FULL, "run 1", "run 100");
        small(NO, "count -1", "count 8");
        small(NO, "status -1", "status -9", "status 0");
    }

    private static void leases() {
        small(BEYOND, "lease 2 3 1 true", "lease -1 3 1 true", "lease 2 2 1 true", "lease 2 3 0 true");
        small(NO, "lease 0 2 1 true", "lease 0 701 1 true", "lease 0 3 0 true", "lease 0 3 100 true", "lease 0 -1 -1 false");
        full(BEYOND, "lease 10 600 1 true", "lease 10 0 1 true");
        full(NO, "lease 0 599 1 true", "lease 0 700 0 true");
        full(FULL, "lease 0 600 1 true", "lease 9 700 99 false");
        small(BEYOND, "leased 2 0", "leased -1 0", "leased 2 4");
        small(NO, "leased 0 4", "leased 1 -1");
        small(NO, "law 0", "law 100", "law -1");
        small(BEYOND, "swap 0 2 true", "swap 2 0 true", "swap 2 2 true", "swap -1 0 true");
        small(NO, "swap 0 0 true", "swap 1 1 false");
    }

    private static void rows() {
        small(BEYOND, "row 3", "row -1");
        refusedAfter(MISSING, "row 0", with(SMALL, "tear"));
        refusedAfter(MISSING, "row -1", with(SMALL, "tear"));
        small(BELOW, "copy 0 0 -1", "copy -1 9 -1", "copy 9 -1 MIN");
        small(COPY, "copy 0 0 4", "copy 1 0 3", "copy 0 1 3", "copy -1 0 1", "copy 0 -1 1", "copy 4 0 0", "copy 0 4 0", "copy MAX 0 1");
        refusedAfter(MISSING, "copy 0 0 0", with(SMALL, "tear"));
        refusedAfter(MISSING, "copy 0 0 -1", with(SMALL, "tear"));
        refusedAfter(MISSING, "copy -1 0 9", with(SMALL, "tear"));
    }

    // ---- the books

    private static final String[] FULL_BOOK = fullBook();

    private static String[] fullBook() {
        List<String> lines = new ArrayList<>();
        for (int p = 0; p < 30; p++) {
            lines.add("person " + (p - 1) + " " + p);
        }
        for (int p = 25; p < 30; p++) {
            lines.add("unknown " + p + " 1");
        }
        for (int k = 0; k < 5; k++) {
            lines.add("run 100");
        }
        lines.add("run 99");
        for (int d = 0; d < 6; d++) {
            lines.add("read line 6 p" + d + " stem; fix 5 b; rest c");
        }
        for (int thing = 0; thing < 10; thing++) {
            lines.add("thing 500 " + (1000 + thing));
            lines.add("part " + thing + " " + thing / 2 + " 12");
        }
        for (int l = 0; l < 30; l++) {
            lines.add("lease " + l / 3 + " " + (650 + l) + " 1 false");
        }
        lines.add("run 1");
        lines.add("lay 0");
        for (int n = 0; n < 120; n += 4) {
            lines.add("feed 7 4");
        }
        return lines.toArray(new String[0]);
    }

    private static String[] with(String[] lines, String last) {
        List<String> all = new ArrayList<>(List.of(lines));
        all.add(last);
        return all.toArray(new String[0]);
    }

    // ---- what is seen

    /** Each of these is looked at on a book of its own, since some of them change it; the last line's answer is compared. */
    private static List<String[]> looks() {
        List<String[]> all = new ArrayList<>();
        for (int what = 0; what < 8; what++) {
            all.add(new String[] {"count " + what});
            all.add(new String[] {"account " + what + " true"});
        }
        for (int p : new int[] {0, 1, 2, 24, 29}) {
            for (int what = 0; what < 7; what++) {
                all.add(new String[] {"look " + p + " " + what});
            }
            all.add(new String[] {"taken " + p + " 1"});
            all.add(new String[] {"account " + p + " false"});
            all.add(new String[] {"row " + p});
            all.add(new String[] {"due 0 " + p});
            all.add(new String[] {"bound 0 " + p + " true"});
            all.add(new String[] {"leased " + p + " 0"});
            all.add(new String[] {"leased " + p + " 3"});
        }
        for (int thing : new int[] {0, 1, 9}) {
            all.add(new String[] {"tell " + thing + " 0 1"});
            all.add(new String[] {"tell " + thing + " 1 1"});
            all.add(new String[] {"ruin " + thing + " 1"});
            all.add(new String[] {"parts " + thing + " NONE"});
            all.add(new String[] {"parts " + thing + " 0"});
            all.add(new String[] {"parts " + thing + " 1"});
        }
        for (int d : new int[] {0, 1, 2, 5}) {
            all.add(new String[] {"end " + d + " NONE 0"});
            all.add(new String[] {"end " + d + " 0 1"});
            all.add(new String[] {"end " + d + " 1 5"});
            all.add(new String[] {"left " + d});
            all.add(new String[] {"yields " + d});
            all.add(new String[] {"manager " + d});
            all.add(new String[] {"share " + d + " 1 1 true"});
        }
        all.add(new String[] {"person 0 650"});
        all.add(new String[] {"thing 1 1"});
        all.add(new String[] {"law 9"});
        all.add(new String[] {"tear"});
        all.add(new String[] {"wipe"});
        // the bytes of the tape, and what comes of them
        all.add(new String[] {"deed"});
        all.add(new String[] {"feed " + (';' << 24 | ' ' << 16 | 'r' << 8 | 'e') + " 4", "feed " + ('s' << 24 | 't' << 16 | ' ' << 8 | 'b') + " 4",
            "deed", "end 2 0 1"});
        return all;
    }

    private static final List<String[]> LOOKS = looks();

    private static void small(int by, String... calls) {
        for (String call : calls) {
            refusedAfter(by, call, SMALL);
        }
    }

    private static void full(int by, String... calls) {
        for (String call : calls) {
            refusedAfter(by, call, FULL_BOOK);
        }
    }

    private static void toldByZero(int by, String... calls) {
        for (String call : calls) {
            checks.due(call, Lines.answer(Lines.book(SMALL), call), 0);
            statusDue(by, call, SMALL);
            nothingElseChanges(call, SMALL);
        }
    }

    private static void refusedAfter(int by, String call, String[] lines) {
        checks.due(call, Lines.answer(Lines.book(lines), call), by);
        statusDue(by, call, lines);
        nothingElseChanges(call, lines);
    }

    /** A fault is told by -10 and below, and counted by no number. */
    private static void statusDue(int by, String call, String[] lines) {
        EndowBook book = Lines.book(lines);
        EndowBook twin = Lines.book(lines);
        Lines.on(book, call);
        for (int k = 0; k < CODES; k++) {
            int more = MISSING - k == by ? 1 : 0;
            String status = "status " + (MISSING - k);
            checks.due(status + " behind " + call, Lines.answer(book, status), Lines.answer(twin, status) + more);
        }
    }

    private static void nothingElseChanges(String call, String[] lines) {
        for (String[] look : LOOKS) {
            EndowBook book = Lines.book(lines);
            EndowBook twin = Lines.book(lines);
            Lines.on(book, call);
            for (String line : look) {
                checks.due(line + " behind " + call, Lines.answer(book, line), Lines.answer(twin, line));
            }
        }
    }
}
