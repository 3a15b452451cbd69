import java.util.ArrayList;
import java.util.List;

/**
 * Calls written as lines: "person NONE 20", "account 0 true". The line "read rest a" puts a text on the tape and calls
 * deed(), "type rest a" only puts it there.
 */
final class Lines {
    private static final String READ = "read ";
    private static final String TYPE = "type ";

    private Lines() {
    }

    /** A new book that has taken these calls. */
    static EndowBook book(String... lines) {
        EndowBook book = new EndowBook();
        on(book, lines);
        return book;
    }

    static void on(EndowBook book, String... lines) {
        for (String line : lines) {
            answer(book, line);
        }
    }

    /** What the last call of the line answers. */
    static long answer(EndowBook book, String line) {
        long last = 0;
        for (Call call : calls(line)) {
            last = call.on(book);
        }
        return last;
    }

    /** The same line some times. */
    static String[] times(int n, String line) {
        String[] lines = new String[n];
        for (int k = 0; k < n; k++) {
            lines[k] = line;
        }
        return lines;
    }

    private static List<Call> calls(String line) {
        if (line.startsWith(READ)) {
            return Call.reading(line.substring(READ.length()));
        }
        if (line.startsWith(TYPE)) {
            return Call.feeding(line.substring(TYPE.length()));
        }
        List<Call> one = new ArrayList<>();
        one.add(call(line));
        return one;
    }

    private static Call call(String line) {
        String[] words = line.split(" ");
        int[] numbers = new int[3];
        boolean is = false;
        int n = 0;
        for (int k = 1; k < words.length; k++) {
            if (words[k].equals("true") || words[k].equals("false")) {
                is = words[k].equals("true");
            } else {
                numbers[n] = number(words[k]);
                n++;
            }
        }
        return new Call(words[0], numbers[0], numbers[1], numbers[2], is);
    }

    private static int number(String word) {
        switch (word) {
            case "NONE": return EndowBook.NONE;
            case "MIN": return Integer.MIN_VALUE;
            case "MAX": return Integer.MAX_VALUE;
            default: return Integer.parseInt(word);
        }
    }
}
