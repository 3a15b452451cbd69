/** Runs a check for each sentence of the document that names an edge; tells which sentence does not hold. */
final class Sentences {
    private final Checks checks = new Checks();
    private String words = "";
    private int count = 0;

    /** The words are the document's own; the check calls due() for each answer that they ask for. */
    void sentence(String itsWords, Runnable check) {
        words = itsWords;
        count++;
        check.run();
    }

    /** The line as Lines has it. */
    void due(EndowBook book, String line, long want) {
        checks.due("\"" + words + "\": " + line, Lines.answer(book, line), want);
    }

    /** The same refusal for each line. */
    void refused(EndowBook book, int by, String... lines) {
        for (String line : lines) {
            due(book, line, by);
        }
    }

    void endWithExitCode(String name) {
        System.out.println(name + ": " + count + " sentences");
        checks.endWithExitCode(name);
    }
}
