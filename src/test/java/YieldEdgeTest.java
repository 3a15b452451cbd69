/** Yields, tests, managers, fixed sums and what is left (promises 16 to 19): a check for each sentence that names an edge. */
public final class YieldEdgeTest {
    private static final int NONE = EndowBook.NONE;
    private static final int BEYOND = EndowBook.BEYOND;
    private static final Sentences t = new Sentences();

    public static void main(String[] args) {
        yieldsAndTests();
        managersAndFixed();
        calls();
        t.endWithExitCode("YieldEdgeTest");
    }

    private static void yieldsAndTests() {
        t.sentence("YIELD times the PARTS GIVEN to the DEED, / 12, cut; all together", YieldEdgeTest::cutForEachThing);
        t.sentence("YIELD of a DEED: of each THING", YieldEdgeTest::leastAndMostYield);
        t.sentence("ENDS whose TEST isn't so are left out", YieldEdgeTest::leftOut);
        t.sentence("(year: the YEAR", YieldEdgeTest::yearTests);
        t.sentence("year: the last YEAR", YieldEdgeTest::lastYearTests);
        t.sentence("yield: this", YieldEdgeTest::yieldTests);
        t.sentence("alive: how many PERSONS .. LIVE)", YieldEdgeTest::aliveTests);
        t.sentence("alive: of the LINE of the PERSON of some LINE END of the DEED", YieldEdgeTest::aliveOfLineEnds);
        t.sentence("alive: each once", YieldEdgeTest::aliveEachOnce);
        t.sentence("alive: none and all of them", YieldEdgeTest::aliveNoneAndAll);
    }

    private static void managersAndFixed() {
        t.sentence("of the LINE of its PERSON the one that LIVES", YieldEdgeTest::managerLives);
        t.sentence("and was born first (of these the first)", YieldEdgeTest::managerBornFirst);
        t.sentence("it gets NUMBER hundredths of YIELD, cut", YieldEdgeTest::hundredths);
        t.sentence("if none LIVES: that isn't taken", YieldEdgeTest::noManager);
        t.sentence("Then each FIXED END, in order, gets its NUMBER, as far as there is something", YieldEdgeTest::fixedInOrder);
        t.sentence("LEFT is what is left then", YieldEdgeTest::leftThen);
        t.sentence("A LINE END has NUMBER twelfths of LEFT", YieldEdgeTest::twelfths);
        t.sentence("What is not gotten by then goes to the HOUSE of the REST", YieldEdgeTest::restOfIt);
    }

    private static void calls() {
        t.sentence("YIELD of a DEED. BEYOND.", () -> beyondDeed("yields"));
        t.sentence("The MANAGER ... BEYOND.", () -> beyondDeed("manager"));
        t.sentence("LEFT. BEYOND.", () -> beyondDeed("left"));
        t.sentence("NONE: none, or no such END whose TEST is so", YieldEdgeTest::managerNone);
        t.sentence("What END i gets in all .. BEYOND.", YieldEdgeTest::getsBeyond);
        t.sentence("(of a REST what its HOUSE gets of it)", YieldEdgeTest::getsOfRest);
        t.sentence("as they would be if NOW went by", YieldEdgeTest::looksChangeNothing);
    }

    /** A book whose deed 0 has all of a thing of such a yield. */
    private static EndowBook book(int yield, String text, String... persons) {
        EndowBook x = Lines.book(persons);
        Lines.on(x, "thing 1 " + yield, "read " + text, "part 0 0 12");
        return x;
    }

    private static void getsDue(EndowBook x, int... want) {
        for (int i = 0; i < want.length; i++) {
            t.due(x, "gets 0 " + i, want[i]);
        }
        t.due(x, "gets 0 " + want.length, BEYOND);
    }

    private static void soDue(EndowBook x, int... want) {
        for (int i = 0; i < want.length; i++) {
            t.due(x, "end 0 " + i + " 5", want[i]);
        }
    }

    private static void cutForEachThing() {
        EndowBook x = Lines.book("thing 1 1", "thing 1 1", "read rest a", "read rest a");
        t.due(x, "yields 0", 0);
        Lines.on(x, "part 0 0 11", "part 1 0 11");
        t.due(x, "yields 0", 0);
        Lines.on(x, "part 0 0 1");
        t.due(x, "yields 0", 1);
        Lines.on(x, "part 1 0 1");
        t.due(x, "yields 0", 2);
        t.due(x, "yields 1", 0);
        EndowBook y = Lines.book("thing 1 9999", "read rest a", "read rest a", "part 0 0 1", "part 0 1 11");
        t.due(y, "yields 0", 833);
        t.due(y, "yields 1", 9165);
        EndowBook z = Lines.book("thing 1 11", "read rest a", "part 0 0 1");
        t.due(z, "yields 0", 0);
        Lines.on(z, "tell 0 1 12");
        t.due(z, "yields 0", 1);
        Lines.on(z, "tell 0 1 23");
        t.due(z, "yields 0", 1);
    }

    private static void leastAndMostYield() {
        EndowBook x = Lines.book("read rest a");
        t.due(x, "yields 0", 0);
        for (int thing = 0; thing < 10; thing++) {
            Lines.on(x, "thing 1 9999", "part " + thing + " 0 12");
            t.due(x, "yields 0", 9999 * (thing + 1));
        }
        Lines.on(x, Lines.times(6, "run 100"));
        t.due(x, "account 0 true", 600 * 99990);
        for (int thing = 0; thing < 10; thing++) {
            Lines.on(x, "tell " + thing + " 1 0");
        }
        t.due(x, "yields 0", 0);
        t.due(x, "gets 0 0", 0);
    }

    private static void leftOut() {
        EndowBook x = book(1200, "man 10 p0 if year>0; fix 100 b if year>0; line 6 p0 stem if year>0; rest a", "person NONE 0");
        getsDue(x, 0, 0, 0, 1200);
        t.due(x, "left 0", 1200);
        t.due(x, "manager 0", NONE);
        t.due(x, "due 0 0", 0);
        Lines.on(x, "run 1");
        getsDue(x, 120, 100, 490, 490);
        t.due(x, "left 0", 980);
        t.due(x, "manager 0", 0);
        t.due(x, "due 0 0", 610);
        t.due(x, "account 0 false", 0);
        t.due(x, "account 1 true", 0);
        t.due(x, "account 0 true", 1200);
    }

    private static void yearTests() {
        EndowBook x = book(9, "fix 1 a if year=1; fix 1 a if year<1; fix 1 a if year>1; fix 1 a if year<0; fix 1 a if year>0; rest a");
        soDue(x, 0, 1, 0, 0, 0, 1);
        Lines.on(x, "run 1");
        soDue(x, 1, 0, 0, 0, 1, 1);
        Lines.on(x, "run 1");
        soDue(x, 0, 0, 1, 0, 1, 1);
        getsDue(x, 0, 0, 1, 0, 1, 7);
    }

    private static void lastYearTests() {
        EndowBook x = book(9, "fix 1 a if year=600; fix 1 a if year>599; fix 1 a if year<600; fix 1 a if year<9999; rest a");
        Lines.on(x, Lines.times(5, "run 100"));
        Lines.on(x, "run 99");
        soDue(x, 0, 0, 1, 1);
        Lines.on(x, "run 1");
        soDue(x, 1, 1, 0, 1);
    }

    private static void yieldTests() {
        EndowBook x = book(10, "fix 1 a if yield=5; fix 1 a if yield<5; fix 1 a if yield>5; fix 1 a if yield=0; fix 1 a if yield>9999; rest a");
        soDue(x, 0, 0, 1, 0, 0, 1);
        Lines.on(x, "tell 0 1 5");
        soDue(x, 1, 0, 0, 0, 0, 1);
        Lines.on(x, "tell 0 1 4");
        soDue(x, 0, 1, 0, 0, 0, 1);
        Lines.on(x, "ruin 0 1");
        soDue(x, 0, 1, 0, 1, 0, 1);
        Lines.on(x, "thing 1 9999", "part 1 0 12");
        soDue(x, 0, 0, 1, 0, 0, 1);
        Lines.on(x, "thing 1 1", "part 2 0 12");
        soDue(x, 0, 0, 1, 0, 1, 1);
        // the yield of the deed, not what is left of it, nor a thing's
        EndowBook y = Lines.book("person NONE 0", "thing 1 20", "read man 50 p0; fix 5 a; fix 5 b if yield=10; rest a", "part 0 0 6");
        getsDue(y, 5, 5, 0, 0);
        soDue(y, 1, 1, 1, 1);
    }

    private static void aliveTests() {
        EndowBook x = book(9, "line 0 p0 stem; fix 1 a if alive=2; fix 1 a if alive<2; fix 1 a if alive>2; rest a",
            "person NONE 0", "person 0 0", "person 1 3", "death 1 4");
        soDue(x, 1, 1, 0, 0, 1);
        Lines.on(x, "run 3");
        soDue(x, 1, 0, 0, 1, 1);
        Lines.on(x, "run 1");
        soDue(x, 1, 1, 0, 0, 1);
        Lines.on(x, "unknown 2 1");
        soDue(x, 1, 0, 1, 0, 1);
        Lines.on(x, "taken 2 1");
        soDue(x, 1, 1, 0, 0, 1);
        Lines.on(x, "death 0 4");
        soDue(x, 1, 0, 1, 0, 1);
    }

    private static void aliveOfLineEnds() {
        // not of the manager's, nor of a line that is no end's; of a line end that is left out as well
        EndowBook x = book(9, "man 1 p0; line 0 p1 stem if year>9; fix 1 a if alive=1; fix 1 a if alive=0; rest a",
            "person NONE 0", "person 0 0", "person NONE 0");
        soDue(x, 1, 0, 1, 0, 1);
        Lines.on(x, "death 1 0");
        soDue(x, 1, 0, 0, 1, 1);
        EndowBook none = book(9, "man 1 p0; fix 1 a if alive=0; fix 1 a if alive>0; rest a", "person NONE 0");
        soDue(none, 1, 1, 0, 1);
    }

    private static void aliveEachOnce() {
        EndowBook x = book(9, "line 0 p0 stem; line 0 p1 heads; line 0 p0 heads; fix 1 a if alive=2; fix 1 a if alive=3; rest a",
            "person NONE 0", "person 0 0", "person NONE 0");
        soDue(x, 1, 1, 1, 1, 0, 1);
        EndowBook y = book(9, "line 0 p1 stem; line 0 p2 stem; fix 1 a if alive=2; fix 1 a if alive=3; rest a",
            "person NONE 0", "person 0 0", "person 0 0");
        soDue(y, 1, 1, 1, 0, 1);
    }

    private static void aliveNoneAndAll() {
        EndowBook x = Lines.book("person NONE 0");
        Lines.on(x, Lines.times(29, "person 0 0"));
        Lines.on(x, "read line 0 p0 stem; fix 1 a if alive=30; fix 1 a if alive>29; fix 1 a if alive<30; fix 1 a if alive<1; rest a");
        soDue(x, 1, 1, 1, 0, 0);
        Lines.on(x, "death 29 0");
        soDue(x, 1, 0, 0, 1, 0);
        for (int p = 0; p < 29; p++) {
            Lines.on(x, "death " + p + " 0");
        }
        soDue(x, 1, 0, 0, 1, 1);
    }

    private static void managerLives() {
        EndowBook x = book(100, "man 10 p1; rest a", "person NONE 0", "person 0 2", "person 1 4", "death 1 5");
        t.due(x, "manager 0", NONE);
        Lines.on(x, "run 1");
        t.due(x, "manager 0", NONE);
        Lines.on(x, "run 1");
        t.due(x, "manager 0", 1);
        Lines.on(x, "run 2");
        t.due(x, "manager 0", 1);
        Lines.on(x, "run 1");
        t.due(x, "manager 0", 2);
        t.due(x, "due 0 2", 10);
        t.due(x, "due 0 0", 0);
        Lines.on(x, "unknown 2 1");
        t.due(x, "manager 0", NONE);
        Lines.on(x, "taken 2 1");
        t.due(x, "manager 0", 2);
        // not one of a line end's line
        EndowBook y = book(100, "man 10 p1; line 1 p0 stem; line 1 p0 heads; rest a", "person NONE 0", "person 0 0");
        t.due(y, "manager 0", 1);
    }

    private static void managerBornFirst() {
        EndowBook x = book(100, "man 10 p0; rest a",
            "person NONE 0", "person 0 3", "person 0 2", "person 0 2", "person 0 1", "person 2 2", "run 5");
        int[] inTheirOrder = {0, 4, 2, 3, 5, 1};
        for (int p : inTheirOrder) {
            t.due(x, "manager 0", p);
            t.due(x, "due 0 " + p, 10);
            Lines.on(x, "death " + p + " 5");
        }
        t.due(x, "manager 0", NONE);
    }

    private static void hundredths() {
        int[][] cases = {{99, 1, 0}, {100, 1, 1}, {199, 1, 1}, {200, 1, 2}, {1, 99, 0}, {1, 100, 1}, {101, 99, 99}, {9999, 100, 9999},
            {9999, 0, 0}, {9999, 33, 3299}, {0, 100, 0}};
        for (int[] one : cases) {
            EndowBook x = book(one[0], "man " + one[1] + " p0; rest a", "person NONE 0");
            t.due(x, "manager 0", 0);
            getsDue(x, one[2], one[0] - one[2]);
            t.due(x, "left 0", one[0] - one[2]);
            t.due(x, "due 0 0", one[2]);
        }
        // of the whole yield
        EndowBook x = book(9999, "man 100 p0; rest a", "person NONE 0");
        for (int thing = 1; thing < 10; thing++) {
            Lines.on(x, "thing 1 9999", "part " + thing + " 0 12");
        }
        getsDue(x, 99990, 0);
    }

    private static void noManager() {
        EndowBook x = book(100, "man 100 p0; fix 30 b; rest a", "person NONE 1", "death 0 2");
        getsDue(x, 0, 30, 70);
        t.due(x, "left 0", 70);
        Lines.on(x, "run 1");
        getsDue(x, 100, 0, 0);
        Lines.on(x, "run 1");
        getsDue(x, 0, 30, 70);
        t.due(x, "account 0 false", 100);
    }

    private static void fixedInOrder() {
        getsDue(book(100, "fix 60 a; fix 40 b; fix 1 c; rest d"), 60, 40, 0, 0);
        getsDue(book(100, "fix 60 a; fix 41 b; fix 1 c; rest d"), 60, 40, 0, 0);
        getsDue(book(100, "fix 60 a; fix 39 b; fix 1 c; rest d"), 60, 39, 1, 0);
        getsDue(book(100, "fix 60 a; fix 39 b; fix 0 c; rest d"), 60, 39, 0, 1);
        getsDue(book(100, "fix 99 a; rest d"), 99, 1);
        getsDue(book(100, "fix 100 a; rest d"), 100, 0);
        getsDue(book(100, "fix 101 a; rest d"), 100, 0);
        getsDue(book(100, "fix 9999 a; fix 9999 b; rest d"), 100, 0, 0);
        getsDue(book(0, "fix 1 a; rest d"), 0, 0);
        // ahead of lines, behind the manager
        getsDue(book(100, "line 12 p0 stem; fix 30 b; rest a", "person NONE 0"), 70, 30, 0);
        getsDue(book(100, "man 80 p0; line 12 p0 stem; fix 30 b; rest a", "person NONE 0"), 80, 0, 20, 0);
        getsDue(book(100, "fix 90 a if year=1; fix 30 b; rest a"), 0, 30, 70);
    }

    private static void leftThen() {
        t.due(book(100, "rest a"), "left 0", 100);
        t.due(book(0, "rest a"), "left 0", 0);
        t.due(book(100, "man 10 p0; fix 20 a; line 12 p0 stem; rest a", "person NONE 0"), "left 0", 70);
        t.due(book(100, "man 10 p0; fix 90 a; line 12 p0 stem; rest a", "person NONE 0"), "left 0", 0);
        t.due(book(100, "man 10 p0; fix 89 a; line 12 p0 stem; rest a", "person NONE 0"), "left 0", 1);
        t.due(book(100, "man 100 p0; fix 20 a; rest a", "person NONE 0"), "left 0", 0);
    }

    private static void twelfths() {
        getsDue(book(100, "line 0 p0 stem; rest a", "person NONE 0"), 0, 100);
        getsDue(book(100, "line 12 p0 stem; rest a", "person NONE 0"), 100, 0);
        getsDue(book(11, "line 1 p0 stem; rest a", "person NONE 0"), 0, 11);
        getsDue(book(12, "line 1 p0 stem; rest a", "person NONE 0"), 1, 11);
        getsDue(book(11, "line 6 p0 stem; rest a", "person NONE 0"), 5, 6);
        getsDue(book(100, "line 11 p0 heads; line 1 p0 stem; rest a", "person NONE 0"), 91, 8, 1);
        // of what is left ahead of all line ends
        getsDue(book(100, "line 6 p0 stem; line 6 p0 stem; rest a", "person NONE 0"), 50, 50, 0);
        getsDue(book(100, "fix 40 a; line 6 p0 stem; line 3 p0 stem; rest a", "person NONE 0"), 40, 30, 15, 15);
    }

    private static void restOfIt() {
        EndowBook x = book(100, "line 12 p0 heads; rest b", "person NONE 0", "person 0 0", "person 0 0");
        getsDue(x, 99, 1);
        Lines.on(x, "run 1");
        t.due(x, "account 1 true", 1);
        t.due(x, "account 2 false", 33);
        Lines.on(x, "death 0 1", "death 1 1", "death 2 1");
        getsDue(x, 0, 100);
        getsDue(book(100, "rest h"), 100);
        getsDue(book(0, "rest h"), 0);
    }

    private static void beyondDeed(String name) {
        EndowBook x = Lines.book("person NONE 0");
        t.due(x, name + " 0", BEYOND);
        for (int d = 0; d < 6; d++) {
            Lines.on(x, "read man 1 p0; rest a");
            t.due(x, name + " " + d, 0);
            t.due(x, name + " " + (d + 1), BEYOND);
        }
        t.refused(x, BEYOND, name + " -1", name + " MIN", name + " MAX");
    }

    private static void managerNone() {
        t.due(book(100, "rest a", "person NONE 0"), "manager 0", NONE);
        t.due(book(100, "line 1 p0 stem; fix 1 a; rest a", "person NONE 0"), "manager 0", NONE);
        t.due(book(100, "man 1 p0 if year=1; rest a", "person NONE 0"), "manager 0", NONE);
        t.due(book(100, "man 1 p0 if year=0; rest a", "person NONE 0"), "manager 0", 0);
        t.due(book(100, "man 1 p0; rest a", "person NONE 1"), "manager 0", NONE);
        t.due(book(100, "man 0 p0; rest a", "person NONE 0"), "manager 0", 0);
        t.due(book(0, "man 1 p0; rest a", "person NONE 0"), "manager 0", 0);
        // another deed's manager says nothing
        EndowBook two = book(100, "man 1 p0; rest a", "person NONE 0");
        Lines.on(two, "read rest a", "read man 1 p0 if year=1; rest a");
        t.due(two, "manager 0", 0);
        t.due(two, "manager 1", NONE);
        t.due(two, "manager 0", 0);
        t.due(two, "manager 2", NONE);
        // the test of another end says nothing
        t.due(book(100, "man 1 p0; fix 1 a if year=1; rest a", "person NONE 0"), "manager 0", 0);
    }

    private static void getsBeyond() {
        EndowBook x = book(100, "fix 1 a; fix 2 a; fix 3 a; fix 4 a; fix 5 a; rest a");
        Lines.on(x, "read rest a");
        t.due(x, "gets 0 0", 1);
        t.due(x, "gets 0 5", 85);
        t.due(x, "gets 1 0", 0);
        t.refused(x, BEYOND, "gets 0 6", "gets 0 NONE", "gets 0 MIN", "gets 0 MAX", "gets 1 1", "gets 2 0", "gets -1 0", "gets MAX 0");
    }

    private static void getsOfRest() {
        EndowBook x = book(100, "fix 30 a; fix 20 a if year=1; rest a");
        getsDue(x, 30, 0, 70);
        Lines.on(x, "run 1");
        t.due(x, "account 0 true", 100);
        getsDue(x, 30, 20, 50);
    }

    private static void looksChangeNothing() {
        EndowBook x = book(100, "man 10 p0; fix 20 b; line 6 p0 stem; rest a", "person NONE 0");
        for (int k = 0; k < 2; k++) {
            t.due(x, "yields 0", 100);
            t.due(x, "manager 0", 0);
            t.due(x, "left 0", 70);
            getsDue(x, 10, 20, 35, 35);
            t.due(x, "due 0 0", 45);
            t.due(x, "bound 0 0 true", 45);
            t.due(x, "lay 0", 1);
        }
        t.due(x, "account 0 false", 0);
        t.due(x, "account 0 true", 0);
        t.due(x, "count 0", 0);
        // of the year that is open: at 600 too
        Lines.on(x, Lines.times(6, "run 100"));
        t.due(x, "due 0 0", 45);
        t.due(x, "account 0 false", 27000);
    }
}
