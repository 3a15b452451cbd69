import java.util.ArrayList;
import java.util.List;
import java.util.Random;

/** Random runs of 512 calls on the class and on the model: each answer has to be the same. */
public final class ModelTest {
    private static final int CALLS = 512;
    private static final int RUNS = 1500;
    private static final int TEXTS = 40000;
    private static final Checks checks = new Checks();

    public static void main(String[] args) {
        for (int seed = 0; seed < RUNS; seed++) {
            compare(seed);
        }
        compareReading();
        checks.endWithExitCode("ModelTest");
    }

    private static void compare(int seed) {
        Random random = new Random(seed);
        DeedTexts texts = new DeedTexts(random);
        EndowBook book = new EndowBook();
        Model model = new Model();
        List<Call> ahead = new ArrayList<>(founding(random));
        for (int n = 0; n < CALLS; n++) {
            int persons = model.count(1);
            if (ahead.isEmpty() && random.nextInt(40) == 0) {
                ahead.addAll(Call.reading(texts.text(persons)));
            }
            Call call;
            if (!ahead.isEmpty()) {
                call = ahead.remove(0);
            } else if (random.nextInt(10) == 0) {
                call = Call.wild(random);
            } else {
                call = Call.fitting(random, persons, model.count(2), model.count(3), model.count(0));
            }
            checks.due("seed " + seed + ", call " + n + " " + call, call.on(book), call.on(model));
        }
    }

    private static List<Call> founding(Random random) {
        List<Call> calls = new ArrayList<>();
        int persons = random.nextInt(29);
        for (int p = 0; p < persons; p++) {
            int parent = p == 0 || random.nextInt(9) == 0 ? -1 : Math.max(0, p - 1 - random.nextInt(4));
            calls.add(new Call("person", parent, p / 3, 0, false));
            if (random.nextInt(3) == 0) {
                calls.add(new Call("death", p, 2 + p / 3 + random.nextInt(12), 0, false));
            } else if (random.nextInt(5) == 0) {
                calls.add(new Call("unknown", p, 1, 0, false));
            }
        }
        DeedTexts texts = new DeedTexts(random);
        int deeds = random.nextInt(4);
        for (int d = 0; d < deeds; d++) {
            calls.addAll(Call.reading(texts.text(persons)));
            calls.add(new Call("thing", 100 + random.nextInt(15), random.nextInt(5000), 0, false));
            calls.add(new Call("part", d, d, 1 + random.nextInt(9), false));
        }
        calls.add(new Call("run", 1 + random.nextInt(random.nextInt(6) == 0 ? 100 : 15), 0, 0, false));
        return calls;
    }

    private static void compareReading() {
        Random random = new Random(77);
        DeedTexts texts = new DeedTexts(random);
        for (int n = 0; n < TEXTS; n++) {
            String text = texts.text(4);
            EndowBook book = new EndowBook();
            Model model = new Model();
            for (int p = 0; p < 4; p++) {
                book.person(-1, 0);
                model.person(-1, 0);
            }
            for (Call call : Call.reading(text)) {
                checks.due("'" + text + "' " + call, call.on(book), call.on(model));
            }
        }
    }
}
