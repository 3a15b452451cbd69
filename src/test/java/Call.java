import java.lang.reflect.Method;
import java.lang.reflect.Modifier;
import java.util.ArrayList;
import java.util.HashMap;
import java.util.List;
import java.util.Map;
import java.util.Random;

/** One call of the face with its arguments, which a book and a model can take. */
final class Call {
    static final String[] NAMES = {
        "person", "death", "unknown", "taken", "look", "thing", "tell", "ruin", "part", "parts", "feed", "wipe",
        "deed", "end", "yields", "manager", "left", "gets", "due", "share", "bound", "run", "account", "lease",
        "leased", "law", "swap", "count", "lay", "tear", "row", "copy", "status",
    };
    private static final Map<Class<?>, Map<String, Method>> METHODS = new HashMap<>();
    private static final int[] FAR = {
        Integer.MIN_VALUE, Integer.MIN_VALUE + 1, -1000, -10, -3, -2, -1, 0, 1, 2, 3, 4, 5, 6, 7, 8, 9, 10, 11, 12, 13,
        29, 30, 31, 99, 100, 101, 120, 600, 700, 701, 9999, 10000, Integer.MAX_VALUE - 1, Integer.MAX_VALUE,
    };

    final String name;
    final int a;
    final int b;
    final int c;
    final boolean is;

    Call(String name, int a, int b, int c, boolean is) {
        this.name = name;
        this.a = a;
        this.b = b;
        this.c = c;
        this.is = is;
    }

    @Override
    public String toString() {
        return name + "(" + a + ", " + b + ", " + c + ", " + is + ")";
    }

    /** Any call, with arguments at and far beyond the edges. */
    static Call wild(Random random) {
        String name = NAMES[random.nextInt(NAMES.length)];
        return new Call(name, far(random), far(random), far(random), random.nextBoolean());
    }

    private static int far(Random random) {
        return random.nextInt(8) == 0 ? random.nextInt() : FAR[random.nextInt(FAR.length)];
    }

    /** A call whose arguments mostly fit a book of so many persons, things, deeds in such a year. */
    static Call fitting(Random random, int persons, int things, int deeds, int now) {
        String name = NAMES[random.nextInt(NAMES.length)];
        int p = random.nextInt(persons + 1) - random.nextInt(2);
        int t = random.nextInt(things + 1);
        int d = random.nextInt(deeds + 1);
        int i = random.nextInt(7) - 1;
        boolean is = random.nextInt(3) > 0;
        switch (name) {
            case "person": return new Call(name, p, now - 5 + random.nextInt(20), 0, is);
            case "death": return new Call(name, p, random.nextInt(4) == 0 ? -1 : now - 3 + random.nextInt(9), 0, is);
            case "unknown": case "taken": return new Call(name, p, random.nextInt(8) == 0 ? 2 : random.nextInt(2), 0, is);
            case "look": return new Call(name, p, random.nextInt(8), 0, is);
            case "thing": return new Call(name, 95 + random.nextInt(20), random.nextInt(2000), 0, is);
            case "tell": return new Call(name, t, random.nextInt(2), 90 + random.nextInt(30), is);
            case "ruin": return new Call(name, t, random.nextInt(2), 0, is);
            case "part": return new Call(name, t, d, 1 + random.nextInt(5), is);
            case "parts": return new Call(name, t, d - 1, 0, is);
            case "feed": return new Call(name, random.nextInt(), random.nextInt(6) - 1, 0, is);
            case "end": return new Call(name, d, i, random.nextInt(7), is);
            case "gets": return new Call(name, d, i, 0, is);
            case "due": case "bound": return new Call(name, d, p, 0, is);
            case "share": return new Call(name, d, i, p, is);
            case "run": return new Call(name, random.nextInt(7) - 1, 0, 0, is);
            case "account": return new Call(name, is ? random.nextInt(9) : p, 0, 0, is);
            case "lease": return new Call(name, t, now - 1 + random.nextInt(12), random.nextInt(7), is);
            case "leased": return new Call(name, random.nextInt(12), random.nextInt(5), 0, is);
            case "law": return new Call(name, random.nextInt(8), 0, 0, is);
            case "swap": return new Call(name, t, random.nextInt(things + 1), 0, is);
            case "count": return new Call(name, random.nextInt(9), 0, 0, is);
            case "row": return new Call(name, random.nextInt(persons + 2) - 1, 0, 0, is);
            case "copy": return new Call(name, random.nextInt(6), random.nextInt(6), random.nextInt(6) - 1, is);
            case "status": return new Call(name, -1 - random.nextInt(9), 0, 0, is);
            default: return new Call(name, d, 0, 0, is);
        }
    }

    /** The calls that wipe the tape, put a text on it and read it. */
    static List<Call> reading(String text) {
        List<Call> calls = feeding(text);
        calls.add(new Call("deed", 0, 0, 0, false));
        return calls;
    }

    /** The calls that wipe the tape and put a text on it. */
    static List<Call> feeding(String text) {
        List<Call> calls = new ArrayList<>();
        calls.add(new Call("wipe", 0, 0, 0, false));
        for (int place = 0; place < text.length(); place += 4) {
            int n = Math.min(4, text.length() - place);
            int bytes = 0;
            for (int k = 0; k < n; k++) {
                bytes = bytes << 8 | text.charAt(place + k);
            }
            calls.add(new Call("feed", bytes, n, 0, false));
        }
        return calls;
    }

    /** The answer of a book or of a model, whose methods bear the same names. */
    long on(Object taker) {
        Method method = METHODS.computeIfAbsent(taker.getClass(), Call::byName).get(name);
        Class<?>[] types = method.getParameterTypes();
        int[] numbers = {a, b, c};
        Object[] arguments = new Object[types.length];
        for (int k = 0; k < types.length; k++) {
            arguments[k] = types[k] == boolean.class ? (Object) is : (Object) numbers[k];
        }
        try {
            return ((Number) method.invoke(taker, arguments)).longValue();
        } catch (ReflectiveOperationException e) {
            throw new IllegalStateException(this.toString(), e);
        }
    }

    private static Map<String, Method> byName(Class<?> taker) {
        Map<String, Method> methods = new HashMap<>();
        for (Method method : taker.getDeclaredMethods()) {
            if (!Modifier.isPrivate(method.getModifiers())) {
                methods.put(method.getName(), method);
            }
        }
        return methods;
    }
}
