import java.util.ArrayList;
import java.util.List;
import java.util.Random;

/** A refused call changes nothing but status(): a book that got refused calls answers as its twin that got none. */
public final class RefusalTest {
    private static final int RUNS = 400;
    private static final Checks checks = new Checks();

    public static void main(String[] args) {
        for (int seed = 0; seed < RUNS; seed++) {
            compareTwins(seed);
        }
        checks.endWithExitCode("RefusalTest");
    }

    private static void compareTwins(int seed) {
        Random random = new Random(seed);
        DeedTexts texts = new DeedTexts(random);
        List<Call> all = new ArrayList<>();
        for (int p = 0; p < 6; p++) {
            all.add(new Call("person", p - 1, p, 0, false));
        }
        for (int n = 0; n < 100; n++) {
            if (n % 25 == 0) {
                all.addAll(Call.reading(texts.text(6)));
                all.add(new Call("thing", 100, 500 + n, 0, false));
                all.add(new Call("part", n / 25, n / 25, 6, false));
            }
            all.add(random.nextInt(4) == 0 ? Call.wild(random) : Call.fitting(random, 8, 4, 4, 5));
        }
        EndowBook book = new EndowBook();
        List<Call> taken = new ArrayList<>();
        for (Call call : all) {
            if (!isRefused(call, book)) {
                taken.add(call);
            }
        }
        EndowBook twin = new EndowBook();
        for (Call call : taken) {
            call.on(twin);
        }
        for (Call call : looks()) {
            checks.due("seed " + seed + ", " + call, call.on(book), call.on(twin));
        }
    }

    /** Whether the book refuses the call: shares and accounts tell it by status() alone, as do faults by their number. */
    private static boolean isRefused(Call call, EndowBook book) {
        long answer = call.on(book);
        boolean tellsZero = call.name.equals("share") || call.name.equals("account");
        return tellsZero || answer <= EndowBook.MISSING;
    }

    private static List<Call> looks() {
        List<Call> calls = new ArrayList<>();
        for (int what = 0; what < 8; what++) {
            calls.add(new Call("count", what, 0, 0, false));
            calls.add(new Call("account", what, 0, 0, true));
            calls.add(new Call("account", what, 0, 0, false));
            calls.add(new Call("row", what, 0, 0, false));
        }
        for (int p = 0; p < 12; p++) {
            for (int what = 0; what < 7; what++) {
                calls.add(new Call("look", p, what, 0, false));
            }
            calls.add(new Call("leased", p, 3, 0, false));
        }
        for (int d = 0; d < 5; d++) {
            for (int p = 0; p < 8; p++) {
                calls.add(new Call("bound", d, p, 0, false));
                calls.add(new Call("due", d, p, 0, false));
                calls.add(new Call("parts", p, d, 0, false));
            }
        }
        calls.add(new Call("tear", 0, 0, 0, false));
        calls.add(new Call("law", 1, 0, 0, false));
        calls.add(new Call("wipe", 0, 0, 0, false));
        for (int t = 0; t < 8; t++) {
            calls.add(new Call("tell", t, 0, 1, false));
            calls.add(new Call("tell", t, 1, 1, false));
            calls.add(new Call("ruin", t, 0, 0, false));
        }
        return calls;
    }
}
