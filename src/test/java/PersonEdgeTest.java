/** Persons (promises 1 to 6): a check for each sentence that names an edge. */
public final class PersonEdgeTest {
    private static final int NONE = EndowBook.NONE;
    private static final int BEYOND = EndowBook.BEYOND;
    private static final int KIND = EndowBook.KIND;
    private static final int NO = EndowBook.NO;
    private static final int FULL = EndowBook.FULL;
    private static final int YEARS_TO_600 = 6;
    private static final Sentences t = new Sentences();

    public static void main(String[] args) {
        t.sentence("NOW (0 at first)", () -> t.due(new EndowBook(), "count 0", 0));
        t.sentence("No PERSONS", PersonEdgeTest::noPersons);
        t.sentence("PERSONS 0 .. 29 as they come", PersonEdgeTest::thirty);
        t.sentence("a PARENT (a PERSON that came before, or none)", PersonEdgeTest::parents);
        t.sentence("born in a YEAR (0 .. 700", PersonEdgeTest::births);
        t.sentence("not ahead of its PARENT's)", PersonEdgeTest::birthsOfChildren);
        t.sentence("a YEAR of birth (it LIVES from that on)", PersonEdgeTest::livesFromBirth);
        t.sentence("one of death (it doesn't LIVE from that on)", PersonEdgeTest::livesToDeath);
        t.sentence("CHILDREN of a PERSON: those whose PARENT it is", PersonEdgeTest::children);
        t.sentence("Its LINE: itself, its CHILDREN, theirs, and so on", PersonEdgeTest::line);
        t.sentence("Death .. (behind its birth, or that", PersonEdgeTest::deathAndBirth);
        t.sentence("Death .. to 700", PersonEdgeTest::deathTo700);
        t.sentence("Death .. NONE: it has none)", PersonEdgeTest::deathNone);
        t.sentence("Death ..: the one before (NONE)", PersonEdgeTest::deathBefore);
        t.sentence("Death ..: It isn't UNKNOWN then", PersonEdgeTest::deathMakesKnown);
        t.sentence("UNKNOWN whether it LIVES (from birth on)", PersonEdgeTest::unknownFromBirth);
        t.sentence("It is UNKNOWN of a PERSON (1; its death is none then", PersonEdgeTest::unknownHasNoDeath);
        t.sentence("it isn't TAKEN)", PersonEdgeTest::unknownIsNotTaken);
        t.sentence("or not (0; its death is none if it was)", PersonEdgeTest::knownAgain);
        t.sentence("It is UNKNOWN ..: what it was", PersonEdgeTest::unknownBefore);
        t.sentence("It is UNKNOWN ..: NO", PersonEdgeTest::unknownFlag);
        t.sentence("FULL: 5 others are", PersonEdgeTest::fiveUnknown);
        t.sentence("TAKEN to LIVE (1), or not (0): what it was", PersonEdgeTest::takenBefore);
        t.sentence("KIND: it isn't UNKNOWN", PersonEdgeTest::takenKnown);
        t.sentence("An UNKNOWN PERSON is TAKEN ..: NO", PersonEdgeTest::takenFlag);
        t.sentence("(at first they aren't)", PersonEdgeTest::notTakenAtFirst);
        t.sentence("Of a PERSON: PARENT (what = 0 .. (6)", PersonEdgeTest::looks);
        t.sentence("Of a PERSON ..: NO", PersonEdgeTest::lookFlag);
        t.endWithExitCode("PersonEdgeTest");
    }

    private static void noPersons() {
        EndowBook x = new EndowBook();
        t.due(x, "count 1", 0);
        t.due(x, "count 5", 0);
        t.due(x, "count 7", 0);
        t.refused(x, BEYOND, "person 0 0", "death 0 0", "unknown 0 1", "taken 0 1", "look 0 0");
        t.due(x, "account 0 false", 0);
        t.due(x, "status -3", 6);
    }

    private static void thirty() {
        EndowBook x = new EndowBook();
        for (int p = 0; p < 30; p++) {
            t.due(x, "person NONE " + p, p);
            t.due(x, "count 1", p + 1);
        }
        t.refused(x, FULL, "person NONE 0", "person 0 0", "person 29 700");
        t.due(x, "count 1", 30);
        t.due(x, "look 29 1", 29);
        t.refused(x, BEYOND, "look 30 1", "look NONE 1");
    }

    private static void parents() {
        EndowBook x = new EndowBook();
        t.due(x, "person 0 0", BEYOND);
        t.due(x, "person NONE 0", 0);
        t.due(x, "person 1 0", BEYOND);
        t.due(x, "person 0 0", 1);
        t.due(x, "person 1 0", 2);
        t.refused(x, BEYOND, "person 3 0", "person -2 0", "person MIN 0", "person MAX 0");
        t.due(x, "look 0 0", NONE);
        t.due(x, "look 1 0", 0);
        t.due(x, "look 2 0", 1);
    }

    private static void births() {
        EndowBook x = new EndowBook();
        t.refused(x, NO, "person NONE -1", "person NONE 701", "person NONE MIN", "person NONE MAX");
        t.due(x, "person NONE 0", 0);
        t.due(x, "person NONE 700", 1);
        t.due(x, "look 0 1", 0);
        t.due(x, "look 1 1", 700);
        t.due(x, "person 0 700", 2);
        t.due(x, "person 0 701", NO);
    }

    private static void birthsOfChildren() {
        EndowBook x = Lines.book("person NONE 50", "person NONE 700", "person NONE 0");
        t.due(x, "person 0 49", NO);
        t.due(x, "person 0 50", 3);
        t.due(x, "person 0 51", 4);
        t.due(x, "person 1 699", NO);
        t.due(x, "person 1 700", 5);
        t.due(x, "person 2 -1", NO);
        t.due(x, "person 2 0", 6);
        // its own parent's year counts, not the first one's
        t.due(x, "person 4 50", NO);
        t.due(x, "person NONE 49", 7);
    }

    private static void livesFromBirth() {
        EndowBook x = Lines.book("person NONE 0", "person NONE 5", "person NONE 600", "person NONE 601", "run 4");
        t.due(x, "look 0 4", 1);
        t.due(x, "look 1 4", 0);
        t.due(x, "count 5", 1);
        Lines.on(x, "run 1");
        t.due(x, "look 1 4", 1);
        t.due(x, "count 5", 2);
        Lines.on(x, "run 1");
        t.due(x, "look 1 4", 1);
        Lines.on(x, Lines.times(YEARS_TO_600 - 1, "run 100"));
        Lines.on(x, "run 93");
        t.due(x, "count 0", 599);
        t.due(x, "look 2 4", 0);
        Lines.on(x, "run 1");
        t.due(x, "look 2 4", 1);
        t.due(x, "look 3 4", 0);
    }

    private static void livesToDeath() {
        EndowBook x = Lines.book("person NONE 0", "person NONE 0", "person NONE 0", "death 0 5", "death 1 0", "run 4");
        t.due(x, "look 0 4", 1);
        t.due(x, "look 1 4", 0);
        t.due(x, "look 2 4", 1);
        t.due(x, "count 5", 2);
        Lines.on(x, "run 1");
        t.due(x, "look 0 4", 0);
        t.due(x, "count 5", 1);
        Lines.on(x, "run 1");
        t.due(x, "look 0 4", 0);
        t.due(x, "look 2 4", 1);
    }

    private static void children() {
        EndowBook x = Lines.book("person NONE 0", "person 0 700", "person 1 700", "person 0 0", "death 3 0", "person NONE 0");
        t.due(x, "look 0 5", 2);
        t.due(x, "look 1 5", 1);
        t.due(x, "look 2 5", 0);
        t.due(x, "look 3 5", 0);
        t.due(x, "look 4 5", 0);
        EndowBook most = Lines.book(Lines.times(1, "person NONE 0"));
        Lines.on(most, Lines.times(29, "person 0 0"));
        t.due(most, "look 0 5", 29);
        t.due(most, "look 29 5", 0);
    }

    private static void line() {
        EndowBook x = new EndowBook();
        for (int p = 0; p < 30; p++) {
            Lines.on(x, "person " + (p - 1) + " 0");
        }
        t.due(x, "look 0 6", 30);
        t.due(x, "look 1 6", 29);
        t.due(x, "look 28 6", 2);
        t.due(x, "look 29 6", 1);
        Lines.on(x, "death 1 0");
        t.due(x, "look 0 6", 29);
        t.due(x, "look 1 6", 28);
        Lines.on(x, "death 29 0");
        t.due(x, "look 28 6", 1);
        t.due(x, "look 29 6", 0);
        EndowBook two = Lines.book("person NONE 0", "person NONE 0", "person 1 0", "person 0 1");
        t.due(two, "look 0 6", 1);
        t.due(two, "look 1 6", 2);
        t.due(two, "look 3 6", 0);
    }

    private static void deathAndBirth() {
        EndowBook x = Lines.book("person NONE 7", "person NONE 0");
        t.due(x, "death 0 6", NO);
        t.due(x, "look 0 2", NONE);
        t.due(x, "death 0 7", NONE);
        t.due(x, "death 0 8", 7);
        t.due(x, "death 0 6", NO);
        t.due(x, "look 0 2", 8);
        t.due(x, "death 1 0", NONE);
        t.due(x, "look 1 2", 0);
    }

    private static void deathTo700() {
        EndowBook x = Lines.book("person NONE 0", "person NONE 700");
        t.due(x, "death 0 700", NONE);
        t.refused(x, NO, "death 0 701", "death 0 MAX", "death 1 699", "death 1 701");
        t.due(x, "look 0 2", 700);
        t.due(x, "death 1 700", NONE);
        t.due(x, "look 1 2", 700);
    }

    private static void deathNone() {
        EndowBook x = Lines.book("person NONE 0", "person NONE 700", "death 0 0");
        t.due(x, "look 0 4", 0);
        t.refused(x, NO, "death 0 -2", "death 1 -2", "death 0 MIN");
        t.due(x, "death 0 NONE", 0);
        t.due(x, "look 0 2", NONE);
        t.due(x, "look 0 4", 1);
        t.due(x, "death 1 NONE", NONE);
    }

    private static void deathBefore() {
        EndowBook x = Lines.book("person NONE 0");
        t.due(x, "death 0 0", NONE);
        t.due(x, "death 0 0", 0);
        t.due(x, "death 0 700", 0);
        t.due(x, "death 0 NONE", 700);
        t.due(x, "death 0 NONE", NONE);
        t.due(x, "death 0 1", NONE);
    }

    private static void deathMakesKnown() {
        EndowBook x = Lines.book("person NONE 0", "person NONE 0", "unknown 0 1", "unknown 1 1");
        t.due(x, "death 0 9", NONE);
        t.due(x, "look 0 3", 0);
        t.due(x, "look 0 4", 1);
        t.due(x, "death 1 NONE", NONE);
        t.due(x, "look 1 3", 0);
        t.due(x, "look 1 4", 1);
        t.due(x, "count 7", 0);
        t.refused(x, KIND, "taken 0 1", "taken 1 1");
    }

    private static void unknownFromBirth() {
        EndowBook x = Lines.book("person NONE 3", "unknown 0 1", "taken 0 1", "run 2");
        t.due(x, "look 0 3", 1);
        t.due(x, "look 0 4", 0);
        t.due(x, "count 5", 0);
        Lines.on(x, "run 1");
        t.due(x, "look 0 4", 1);
        t.due(x, "count 5", 1);
        Lines.on(x, Lines.times(YEARS_TO_600 - 1, "run 100"));
        t.due(x, "look 0 4", 1);
    }

    private static void unknownHasNoDeath() {
        EndowBook x = Lines.book("person NONE 0", "death 0 0");
        t.due(x, "unknown 0 1", 0);
        t.due(x, "look 0 2", NONE);
        t.due(x, "look 0 3", 1);
        Lines.on(x, "taken 0 1", "run 1");
        t.due(x, "look 0 4", 1);
    }

    private static void unknownIsNotTaken() {
        EndowBook x = Lines.book("person NONE 0", "unknown 0 1", "taken 0 1");
        t.due(x, "look 0 4", 1);
        t.due(x, "unknown 0 1", 1);
        t.due(x, "look 0 4", 0);
        t.due(x, "taken 0 1", 0);
        Lines.on(x, "unknown 0 0", "unknown 0 1");
        t.due(x, "taken 0 1", 0);
        Lines.on(x, "death 0 50", "unknown 0 1");
        t.due(x, "taken 0 0", 0);
    }

    private static void knownAgain() {
        EndowBook x = Lines.book("person NONE 0", "person NONE 0", "unknown 0 1", "death 1 40");
        t.due(x, "unknown 0 0", 1);
        t.due(x, "look 0 2", NONE);
        t.due(x, "look 0 3", 0);
        t.due(x, "look 0 4", 1);
        t.due(x, "unknown 1 0", 0);
        t.due(x, "look 1 2", 40);
    }

    private static void unknownBefore() {
        EndowBook x = Lines.book("person NONE 0");
        t.due(x, "unknown 0 0", 0);
        t.due(x, "unknown 0 1", 0);
        t.due(x, "unknown 0 1", 1);
        t.due(x, "unknown 0 0", 1);
        t.due(x, "unknown 0 0", 0);
    }

    private static void unknownFlag() {
        EndowBook x = Lines.book("person NONE 0");
        t.refused(x, NO, "unknown 0 -1", "unknown 0 2", "unknown 0 MIN", "unknown 0 MAX");
        t.due(x, "look 0 3", 0);
        Lines.on(x, "unknown 0 1");
        t.refused(x, NO, "unknown 0 -1", "unknown 0 2");
        t.due(x, "look 0 3", 1);
    }

    private static void fiveUnknown() {
        EndowBook x = new EndowBook();
        for (int p = 0; p < 7; p++) {
            Lines.on(x, "person NONE " + 100 * p);
        }
        for (int p = 0; p < 5; p++) {
            t.due(x, "unknown " + p + " 1", 0);
        }
        t.refused(x, FULL, "unknown 5 1", "unknown 6 1");
        t.due(x, "count 7", 5);
        t.due(x, "look 5 3", 0);
        t.due(x, "unknown 0 1", 1);
        t.due(x, "unknown 4 1", 1);
        t.due(x, "unknown 5 0", 0);
        t.due(x, "death 4 500", NONE);
        t.due(x, "unknown 5 1", 0);
        t.due(x, "unknown 6 1", FULL);
        t.due(x, "unknown 0 0", 1);
        t.due(x, "unknown 6 1", 0);
        t.due(x, "unknown 0 1", FULL);
        t.due(x, "count 7", 5);
    }

    private static void takenBefore() {
        EndowBook x = Lines.book("person NONE 0", "unknown 0 1");
        t.due(x, "taken 0 0", 0);
        t.due(x, "taken 0 1", 0);
        t.due(x, "look 0 4", 1);
        t.due(x, "taken 0 1", 1);
        t.due(x, "taken 0 0", 1);
        t.due(x, "look 0 4", 0);
        t.due(x, "taken 0 0", 0);
    }

    private static void takenKnown() {
        EndowBook x = Lines.book("person NONE 0", "person NONE 0", "unknown 1 1", "death 0 9");
        t.refused(x, KIND, "taken 0 0", "taken 0 1", "taken 0 2", "taken 0 -1");
        t.due(x, "look 0 2", 9);
        t.due(x, "taken 1 1", 0);
        Lines.on(x, "unknown 1 0");
        t.due(x, "taken 1 0", KIND);
    }

    private static void takenFlag() {
        EndowBook x = Lines.book("person NONE 0", "unknown 0 1", "taken 0 1");
        t.refused(x, NO, "taken 0 -1", "taken 0 2", "taken 0 MIN", "taken 0 MAX");
        t.due(x, "taken 0 0", 1);
    }

    private static void notTakenAtFirst() {
        EndowBook x = Lines.book("person NONE 0", "person 0 0", "unknown 1 1");
        t.due(x, "look 1 4", 0);
        t.due(x, "look 0 6", 1);
        t.due(x, "count 5", 1);
        t.due(x, "taken 1 1", 0);
        t.due(x, "look 0 6", 2);
    }

    private static void looks() {
        EndowBook x = Lines.book("person NONE 3", "person 0 4", "unknown 1 1", "taken 1 1", "death 0 9", "run 4");
        int[][] want = {{NONE, 3, 9, 0, 1, 1, 2}, {0, 4, NONE, 1, 1, 0, 1}};
        for (int p = 0; p < want.length; p++) {
            for (int what = 0; what < want[p].length; what++) {
                t.due(x, "look " + p + " " + what, want[p][what]);
            }
        }
    }

    private static void lookFlag() {
        EndowBook x = Lines.book("person NONE 0");
        t.refused(x, NO, "look 0 -1", "look 0 7", "look 0 MIN", "look 0 MAX");
        t.due(x, "look 0 6", 1);
        t.due(x, "look 0 0", NONE);
    }
}
