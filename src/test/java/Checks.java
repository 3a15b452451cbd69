/** Counts answers that are due and those that are not, and feeds texts to a book. */
final class Checks {
    private int right = 0;
    private int wrong = 0;

    void due(String what, long got, long want) {
        if (got == want) {
            right++;
        } else {
            wrong++;
            System.out.println(what + ": answered " + got + ", due is " + want);
        }
    }

    void isTrue(String what, boolean is) {
        due(what, is ? 1 : 0, 1);
    }

    void endWithExitCode(String name) {
        System.out.println(name + ": " + right + " answers as due, " + wrong + " not");
        if (wrong != 0) {
            System.exit(1);
        }
    }

    /** The tape is wiped, then holds just the text. */
    static void feedText(EndowBook book, String text) {
        for (Call call : Call.feeding(text)) {
            call.on(book);
        }
    }

    static int read(EndowBook book, String text) {
        feedText(book, text);
        return book.deed();
    }
}
