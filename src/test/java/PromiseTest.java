/** For each promise of the document: ordinary calls, the edges that it names, and wrong calls. */
public final class PromiseTest {
    private static final int NONE = EndowBook.NONE;
    private static final int MISSING = EndowBook.MISSING;
    private static final int BEYOND = EndowBook.BEYOND;
    private static final int BELOW = EndowBook.BELOW;
    private static final int KIND = EndowBook.KIND;
    private static final int COPY = EndowBook.COPY;
    private static final int NO = EndowBook.NO;
    private static final int FULL = EndowBook.FULL;
    private static final int MIN = Integer.MIN_VALUE;
    private static final int MAX = Integer.MAX_VALUE;

    private static final Checks checks = new Checks();
    private static int promise = 0;

    private static void due(String call, long got, long want) {
        checks.due("promise " + promise + ": " + call, got, want);
    }

    public static void main(String[] args) {
        newObject();
        person();
        death();
        unknown();
        taken();
        look();
        thing();
        tell();
        ruin();
        part();
        parts();
        feed();
        wipe();
        deedFaults();
        deedRefusals();
        end();
        endTests();
        yields();
        manager();
        left();
        gets();
        due();
        shareByStem();
        shareRefusals();
        bound();
        boundOfMany();
        run();
        account();
        lease();
        leased();
        law();
        swap();
        count();
        lay();
        tear();
        row();
        copy();
        status();
        fullBook();
        checks.endWithExitCode("PromiseTest");
    }

    private static void newObject() {
        promise = 1;
        EndowBook x = new EndowBook();
        for (int what = 0; what <= 7; what++) {
            due("count " + what, x.count(what), 0);
        }
        due("no person", x.look(0, 0), BEYOND);
        due("no thing", x.ruin(0, 1), BEYOND);
        due("no deed", x.yields(0), BEYOND);
        due("no lease", x.leased(0, 0), BEYOND);
        due("no row", x.row(0), MISSING);
        due("law", x.law(5), 3);
        for (int house = 0; house < 8; house++) {
            due("account of house " + house, x.account(house, true), 0);
        }
        EndowBook y = new EndowBook();
        for (int by = -8; by <= -2; by++) {
            due("status " + by, y.status(by), 0);
        }
    }

    private static void person() {
        promise = 2;
        EndowBook x = new EndowBook();
        due("parent to be", x.person(0, 0), BEYOND);
        due("parent below none", x.person(-2, 0), BEYOND);
        due("beyond ahead of year", x.person(0, -1), BEYOND);
        due("year below 0", x.person(NONE, -1), NO);
        due("year above 700", x.person(NONE, 701), NO);
        due("least year", x.person(NONE, 0), 0);
        due("last year", x.person(NONE, 700), 1);
        due("in the parent's year", x.person(1, 700), 2);
        due("ahead of the parent", x.person(1, 699), NO);
        due("extreme", x.person(MAX, MIN), BEYOND);
        due("extreme year", x.person(NONE, MAX), NO);
        due("extreme year below", x.person(0, MIN), NO);
        for (int p = 3; p < 30; p++) {
            due("person " + p, x.person(p - 3, 700), p);
        }
        due("full", x.person(NONE, 0), FULL);
        due("beyond ahead of full", x.person(30, 0), BEYOND);
        due("no ahead of full", x.person(NONE, 701), NO);
        due("number", x.count(1), 30);
        due("parent of the last", x.look(29, 0), 26);
    }

    private static void death() {
        promise = 3;
        EndowBook x = new EndowBook();
        x.person(NONE, 10);
        due("beyond", x.death(1, 10), BEYOND);
        due("beyond below", x.death(-1, 10), BEYOND);
        due("beyond ahead of no", x.death(1, -5), BEYOND);
        due("ahead of birth", x.death(0, 9), NO);
        due("behind 700", x.death(0, 701), NO);
        due("below none", x.death(0, -2), NO);
        due("extreme", x.death(0, MIN), NO);
        due("in the year of birth", x.death(0, 10), NONE);
        due("to 700", x.death(0, 700), 10);
        due("none", x.death(0, NONE), 700);
        due("after none", x.death(0, 30), NONE);
        due("unknown takes death away", x.unknown(0, 1), 0);
        due("death of an unknown one", x.death(0, 40), NONE);
        due("isn't unknown then", x.look(0, 3), 0);
        due("death now", x.look(0, 2), 40);
        x.unknown(0, 1);
        due("no death of an unknown one", x.death(0, NONE), NONE);
        due("isn't unknown then either", x.look(0, 3), 0);
        x.run(10);
        due("lives", x.look(0, 4), 1);
        x.death(0, 11);
        due("lives still", x.look(0, 4), 1);
        x.run(1);
        due("lives no more", x.look(0, 4), 0);
    }

    private static void unknown() {
        promise = 4;
        EndowBook x = new EndowBook();
        for (int p = 0; p < 7; p++) {
            x.person(NONE, 0);
        }
        due("beyond", x.unknown(7, 1), BEYOND);
        due("beyond below", x.unknown(NONE, 1), BEYOND);
        due("beyond ahead of no", x.unknown(7, 2), BEYOND);
        due("no", x.unknown(0, 2), NO);
        due("no below", x.unknown(0, -1), NO);
        x.death(0, 300);
        due("known stays known", x.unknown(0, 0), 0);
        due("its death stays", x.look(0, 2), 300);
        due("unknown", x.unknown(0, 1), 0);
        due("its death is none", x.look(0, 2), NONE);
        x.taken(0, 1);
        due("unknown anew", x.unknown(0, 1), 1);
        due("not taken any more", x.look(0, 4), 0);
        x.taken(0, 1);
        due("known again", x.unknown(0, 0), 1);
        due("death none then", x.look(0, 2), NONE);
        due("lives", x.look(0, 4), 1);
        due("unknown once more", x.unknown(0, 1), 0);
        due("the old taken is gone", x.look(0, 4), 0);
        for (int p = 1; p < 5; p++) {
            due("unknown " + p, x.unknown(p, 1), 0);
        }
        x.death(5, 9);
        due("full", x.unknown(5, 1), FULL);
        due("full changes no death", x.look(5, 2), 9);
        due("no ahead of full", x.unknown(5, 2), NO);
        due("known when full", x.unknown(5, 0), 0);
        due("one of the five anew", x.unknown(4, 1), 1);
        due("one less", x.unknown(4, 0), 1);
        due("room again", x.unknown(5, 1), 0);
        due("five", x.count(7), 5);
    }

    private static void taken() {
        promise = 5;
        EndowBook x = new EndowBook();
        x.person(NONE, 0);
        x.person(0, 5);
        due("beyond", x.taken(2, 1), BEYOND);
        due("beyond below", x.taken(-1, 1), BEYOND);
        due("known", x.taken(0, 1), KIND);
        due("kind ahead of no", x.taken(0, 2), KIND);
        x.unknown(1, 1);
        due("no", x.taken(1, 2), NO);
        due("no below", x.taken(1, -1), NO);
        due("taken", x.taken(1, 1), 0);
        due("not born yet", x.look(1, 4), 0);
        due("taken still", x.taken(1, 1), 1);
        x.run(5);
        due("lives from birth on", x.look(1, 4), 1);
        due("not taken", x.taken(1, 0), 1);
        due("doesn't live", x.look(1, 4), 0);
        due("not taken still", x.taken(1, 0), 0);
    }

    private static void look() {
        promise = 6;
        EndowBook x = new EndowBook();
        due("beyond", x.look(0, 0), BEYOND);
        x.person(NONE, 0);
        x.person(0, 1);
        x.person(0, 2);
        x.person(1, 3);
        x.person(NONE, 0);
        due("beyond ahead of no", x.look(5, 7), BEYOND);
        due("no", x.look(0, 7), NO);
        due("no below", x.look(0, -1), NO);
        due("no parent", x.look(0, 0), NONE);
        due("parent", x.look(3, 0), 1);
        due("birth", x.look(3, 1), 3);
        due("death", x.look(3, 2), NONE);
        due("unknown", x.look(3, 3), 0);
        due("lives", x.look(0, 4), 1);
        due("not yet", x.look(1, 4), 0);
        due("children, born or not", x.look(0, 5), 2);
        due("no grandchildren among them", x.look(1, 5), 1);
        due("no children", x.look(3, 5), 0);
        due("line now", x.look(0, 6), 1);
        x.run(3);
        due("line in 3", x.look(0, 6), 4);
        due("line of a child", x.look(1, 6), 2);
        due("line of a leaf", x.look(3, 6), 1);
        due("line of another", x.look(4, 6), 1);
        x.death(1, 2);
        due("line without its dead", x.look(0, 6), 3);
        x.unknown(2, 1);
        due("line without an unknown one", x.look(0, 6), 2);
        x.taken(2, 1);
        due("line with a taken one", x.look(0, 6), 3);
        due("unknown is told", x.look(2, 3), 1);
    }

    private static void thing() {
        promise = 7;
        EndowBook x = new EndowBook();
        due("worth 0", x.thing(0, 5), NO);
        due("worth above", x.thing(10000, 5), NO);
        due("yield below", x.thing(5, -1), NO);
        due("yield above", x.thing(5, 10000), NO);
        due("least", x.thing(1, 0), 0);
        due("most", x.thing(9999, 9999), 1);
        for (int t = 2; t < 10; t++) {
            due("thing " + t, x.thing(5, 5), t);
        }
        due("full", x.thing(5, 5), FULL);
        due("no ahead of full", x.thing(0, 5), NO);
        due("count", x.count(2), 10);
    }

    private static void tell() {
        promise = 8;
        EndowBook x = new EndowBook();
        due("beyond", x.tell(0, 0, 5), BEYOND);
        x.thing(50, 60);
        due("beyond ahead of no", x.tell(1, 2, 5), BEYOND);
        due("beyond below", x.tell(-1, 0, 5), BEYOND);
        due("what", x.tell(0, 2, 5), NO);
        due("what below", x.tell(0, -1, 5), NO);
        due("worth 0", x.tell(0, 0, 0), NO);
        due("worth above", x.tell(0, 0, 10000), NO);
        due("yield below", x.tell(0, 1, -1), NO);
        due("yield above", x.tell(0, 1, 10000), NO);
        due("worth", x.tell(0, 0, 9999), 50);
        due("worth 1", x.tell(0, 0, 1), 9999);
        due("worth before", x.tell(0, 0, 7), 1);
        due("yield 0", x.tell(0, 1, 0), 60);
        due("yield most", x.tell(0, 1, 9999), 0);
        due("yield before", x.tell(0, 1, 12), 9999);
    }

    private static void ruin() {
        promise = 9;
        EndowBook x = new EndowBook();
        due("beyond", x.ruin(0, 1), BEYOND);
        Checks.read(x, "rest a");
        x.thing(5, 24);
        x.part(0, 0, 6);
        due("beyond ahead of no", x.ruin(1, 2), BEYOND);
        due("no", x.ruin(0, 2), NO);
        due("no below", x.ruin(0, -1), NO);
        due("was none", x.ruin(0, 1), 0);
        due("yields nothing", x.yields(0), 0);
        due("was one", x.ruin(0, 1), 1);
        due("yield is told in ruin", x.tell(0, 1, 36), 24);
        due("yields nothing still", x.yields(0), 0);
        due("mended", x.ruin(0, 0), 1);
        due("yields again", x.yields(0), 18);
        due("was mended", x.ruin(0, 0), 0);
    }

    private static void part() {
        promise = 10;
        EndowBook x = new EndowBook();
        due("nothing there", x.part(0, 0, 1), BEYOND);
        x.thing(5, 5);
        due("no deed", x.part(0, 0, 1), BEYOND);
        Checks.read(x, "rest a");
        Checks.read(x, "rest b");
        due("no thing", x.part(1, 0, 1), BEYOND);
        due("deed none", x.part(0, NONE, 1), BEYOND);
        due("thing below", x.part(-1, 0, 1), BEYOND);
        due("beyond ahead of no", x.part(0, 2, 0), BEYOND);
        due("0", x.part(0, 0, 0), NO);
        due("13", x.part(0, 0, 13), NO);
        due("below", x.part(0, 0, -1), NO);
        due("5", x.part(0, 0, 5), 5);
        due("1 more", x.part(0, 0, 1), 6);
        due("7 of 6", x.part(0, 1, 7), FULL);
        due("no ahead of full", x.part(0, 1, 13), NO);
        due("6 of 6", x.part(0, 1, 6), 6);
        due("1 of none", x.part(0, 0, 1), FULL);
        x.thing(5, 5);
        due("all of another", x.part(1, 1, 12), 12);
    }

    private static void parts() {
        promise = 11;
        EndowBook x = new EndowBook();
        due("nothing there", x.parts(0, NONE), BEYOND);
        x.thing(5, 5);
        x.thing(5, 5);
        due("no deed", x.parts(0, 0), BEYOND);
        due("all left", x.parts(0, NONE), 12);
        Checks.read(x, "rest a");
        Checks.read(x, "rest b");
        x.part(0, 0, 3);
        x.part(0, 1, 4);
        x.part(1, 1, 2);
        due("of deed 0", x.parts(0, 0), 3);
        due("of deed 1", x.parts(0, 1), 4);
        due("left", x.parts(0, NONE), 5);
        due("none of it", x.parts(1, 0), 0);
        due("of the other", x.parts(1, 1), 2);
        due("left of the other", x.parts(1, NONE), 10);
        due("deed below none", x.parts(0, -2), BEYOND);
        due("deed beyond", x.parts(0, 2), BEYOND);
        due("thing beyond", x.parts(2, NONE), BEYOND);
        due("thing below", x.parts(-1, 0), BEYOND);
    }

    private static void feed() {
        promise = 12;
        EndowBook x = new EndowBook();
        due("below", x.feed(0, -1), BELOW);
        due("far below", x.feed(0, MIN), BELOW);
        due("above", x.feed(0, 5), NO);
        due("far above", x.feed(0, MAX), NO);
        due("nothing", x.feed(-1, 0), 0);
        // the highest of the n lowest bytes comes first; those above are not taken
        due("three", x.feed(0x55726573, 3), 3);
        due("four", x.feed(0x74206100, 2), 5);
        x.wipe();
        x.feed(0xFF000000 | 'r' << 16 | 'e' << 8 | 's', 3);
        x.feed(0xABCD0000 | 't' << 8 | ' ', 2);
        due("six", x.feed(0x12345600 | 'h', 1), 6);
        due("read", x.deed(), 0);
        due("house", x.end(0, 0, 3), 7);
        for (int n = 4; n <= 116; n += 4) {
            due("to " + n, x.feed(n, 4), n);
        }
        due("119", x.feed(0, 3), 119);
        due("two more", x.feed(0, 2), FULL);
        due("no ahead of full", x.feed(0, 5), NO);
        due("120", x.feed(0, 1), 120);
        due("one more", x.feed(0, 1), FULL);
        due("nothing more", x.feed(0, 0), 120);
        due("below ahead of full", x.feed(0, -1), BELOW);
        due("count", x.count(4), 120);
    }

    private static void wipe() {
        promise = 13;
        EndowBook x = new EndowBook();
        due("empty", x.wipe(), 0);
        x.feed(0, 3);
        due("three", x.wipe(), 3);
        due("count", x.count(4), 0);
        due("empty again", x.wipe(), 0);
        due("nothing to read", x.deed(), -10);
    }

    private static void fault(String text, int place) {
        EndowBook x = new EndowBook();
        x.person(NONE, 0);
        due("fault of '" + text + "'", Checks.read(x, text), -10 - place);
        due("tape of '" + text + "' stays", x.count(4), text.length());
        due("no deed", x.count(3), 0);
    }

    private static void fine(String text) {
        EndowBook x = new EndowBook();
        for (int p = 0; p < 13; p++) {
            x.person(NONE, 0);
        }
        due("'" + text + "'", Checks.read(x, text), 0);
        due("tape is empty then", x.count(4), 0);
        due("one deed", x.count(3), 1);
    }

    private static void deedFaults() {
        promise = 14;
        fault("", 0);
        fault("rest", 4);
        fault("rest ", 5);
        fault("rest A", 5);
        fault("rest i", 5);
        fault("rest `", 5);
        fault("rest a ", 6);
        fault("rest a if year=1", 6);
        fault("rest a; rest b", 6);
        fault(" rest a", 0);
        fault("x", 0);
        fault("Rest a", 0);
        fault("ra", 1);
        fault("fi", 2);
        fault("fox", 1);
        fault("fix  1 a; rest a", 4);
        fault("fix a; rest a", 4);
        fault("fix 1  a; rest a", 6);
        fault("fix 1a; rest a", 5);
        fault("fix 12345 a; rest a", 8);
        fault("fix 1 a", 7);
        fault("fix 1 a;", 8);
        fault("fix 1 a; ", 9);
        fault("fix 1 a;rest a", 8);
        fault("fix 1 a;  rest a", 9);
        fault("fix 1 ab; rest a", 7);
        fault("fix 1 a ; rest a", 8);
        fault("fix 1 a if", 10);
        fault("fix 1 a if ; rest a", 11);
        fault("fix 1 a if x=1; rest a", 11);
        fault("fix 1 a if yon=1; rest a", 12);
        fault("fix 1 a if yeld=1; rest a", 13);
        fault("fix 1 a if yiar=1; rest a", 13);
        fault("fix 1 a if years=1; rest a", 15);
        fault("fix 1 a if alice=1; rest a", 14);
        fault("fix 1 a if alive =1; rest a", 16);
        fault("fix 1 a if alive!1; rest a", 16);
        fault("fix 1 a if alive== 1; rest a", 17);
        fault("fix 1 a if alive= 1; rest a", 17);
        fault("fix 1 a if alive=12345; rest a", 21);
        fault("fix 1 a if alive=1 if year=1; rest a", 18);
        fault("fix 1 a if year<1", 17);
        fault("line 1 p0; rest a", 9);
        fault("line 1 0 stem; rest a", 7);
        fault("line 1 p stem; rest a", 8);
        fault("line 1 p000 stem; rest a", 10);
        fault("line 1 p0 step; rest a", 13);
        fault("line 1 p0 stems; rest a", 14);
        fault("line 1 p0 head; rest a", 14);
        fault("line 1 p0 hems; rest a", 12);
        fault("line 1 p0 tree; rest a", 10);
        fault("line 12345 p0 stem; rest a", 9);
        fault("lime 1 p0 stem; rest a", 2);
        fault("man 1 p; rest a", 7);
        fault("man 1 p0 stem; rest a", 9);
        fault("man 1 p012; rest a", 9);
        fault("man 1 a; rest a", 6);
        fault("men 1 p0; rest a", 1);
        fault("man 1 p0; man 1 p0; rest a", 10);
        fault("fix 1 a; man 1 p0; rest a", 9);
        fault("man 1 p0", 8);
        fault("fix 1 a; fix 1 a; fix 1 a; fix 1 a; fix 1 a; fix 1 a; rest a", 45);
        fault("fix 1 a; fix 1 a; fix 1 a; fix 1 a; fix 1 a; line 1 p0 stem", 45);
        fault("fix 1 a; fix 1 a; fix 1 a; fix 1 a; fix 1 a; ", 45);
        fault("fix 1 a" + (char) 0xBB + " rest a", 7);
        fault((char) 0 + "rest a", 0);
        String six = "line 1234 p12 stem if yield>1234; line 1234 p12 heads if alive<1234; ";
        fault((six + six).substring(0, 119) + "x", 119);
        fault((six + six).substring(0, 120), 120);
        fine("rest a");
        fine("rest h");
        fine("fix 0 a; rest a");
        fine("fix 9999 h if yield>9999; rest a");
        fine("fix 0001 a if year<0000; rest a");
        fine("line 12 p0 stem; rest a");
        fine("line 012 p12 heads if alive=3; rest a");
        fine("man 100 p00; rest a");
        fine("man 100 p00 if year=1; rest a");
        fine("man 10 p0; line 6 p0 stem if alive>2; fix 50 c; rest a");
        fine("man 1 p0; fix 1 a; fix 1 a; fix 1 a; line 1 p0 stem; rest a");
        fine("line 2 p0 stem; line 3 p0 heads; line 7 p1 stem; fix 1 a; fix 1 b; rest a");
    }

    private static void deedRefusals() {
        EndowBook x = new EndowBook();
        due("line of nobody", Checks.read(x, "line 1 p0 stem; rest a"), NO);
        due("its tape stays", x.count(4), 22);
        due("manager nobody", Checks.read(x, "man 1 p0; rest a"), NO);
        x.person(NONE, 0);
        due("manager still nobody", Checks.read(x, "man 1 p1; rest a"), NO);
        due("line of still nobody", Checks.read(x, "line 1 p01 stem; rest a"), NO);
        due("above 100", Checks.read(x, "man 101 p0; rest a"), NO);
        due("above 12", Checks.read(x, "line 13 p0 heads; rest a"), NO);
        due("above 12 together", Checks.read(x, "line 6 p0 heads; fix 9 a; line 7 p0 stem; rest a"), NO);
        due("above 12 in spite of a test", Checks.read(x, "line 13 p0 heads if year=9; rest a"), NO);
        due("fault ahead of no", Checks.read(x, "man 101 p7; rest x"), -27);
        due("no deed so far", x.count(3), 0);
        due("a text with a test and a fault", Checks.read(x, "fix 4 a if year=99; fix 4 c; x"), -39);
        due("a sound one then", Checks.read(x, "fix 5 b; rest a"), 0);
        due("has no test of the other", x.end(0, 0, 5), 1);
        due("nor its ends", x.end(0, NONE, 0), 2);
        due("has its own number", x.end(0, 0, 1), 5);
        for (int d = 1; d < 6; d++) {
            due("deed " + d, Checks.read(x, "rest b"), d);
        }
        due("full", Checks.read(x, "rest b"), FULL);
        due("tape stays when full", x.count(4), 6);
        due("full ahead of the fault", Checks.read(x, "x"), FULL);
        due("full ahead of no", Checks.read(x, "man 101 p0; rest b"), FULL);
        due("six", x.count(3), 6);
    }

    private static void end() {
        promise = 15;
        EndowBook x = new EndowBook();
        due("no deed", x.end(0, NONE, 0), BEYOND);
        x.person(NONE, 0);
        x.person(0, 0);
        Checks.read(x, "rest d");
        Checks.read(x, "man 7 p1; line 5 p0 stem; line 6 p01 heads; fix 0123 h; rest c");
        int[][] want = {
            {2, 7, 1, KIND, KIND, 1},
            {1, 5, 0, KIND, 0, 1},
            {1, 6, 1, KIND, 1, 1},
            {0, 123, KIND, 7, KIND, 1},
            {3, KIND, KIND, 2, KIND, 1},
        };
        for (int i = 0; i < want.length; i++) {
            for (int what = 0; what < 6; what++) {
                due("end " + i + " " + what, x.end(1, i, what), want[i][what]);
            }
        }
        due("how many", x.end(1, NONE, 0), 5);
        due("how many, what any", x.end(1, NONE, 77), 5);
        due("one", x.end(0, NONE, MIN), 1);
        due("what", x.end(1, 0, 6), NO);
        due("what below", x.end(1, 4, -1), NO);
        due("end beyond", x.end(1, 5, 0), BEYOND);
        due("end beyond in a short one", x.end(0, 1, 0), BEYOND);
        due("end below none", x.end(1, -2, 0), BEYOND);
        due("beyond ahead of no", x.end(1, 5, 6), BEYOND);
        due("deed beyond", x.end(2, 0, 0), BEYOND);
        due("deed below", x.end(-1, NONE, 0), BEYOND);
    }

    private static void endTests() {
        EndowBook x = new EndowBook();
        x.person(NONE, 0);
        x.person(0, 2);
        x.person(NONE, 0);
        x.thing(10, 5);
        Checks.read(x, "line 0 p0 stem if year<2; line 0 p0 heads if year=2; line 0 p1 stem if year>2; rest a");
        Checks.read(x, "man 1 p2 if alive>1; line 0 p0 stem if alive=1; line 0 p1 heads if alive<1; rest a");
        Checks.read(x, "fix 0 a if yield=5; fix 0 a if yield<5; fix 0 a if yield>5; fix 0 a if alive=0; rest a");
        due("year 0 < 2", x.end(0, 0, 5), 1);
        due("year 0 = 2", x.end(0, 1, 5), 0);
        due("year 0 > 2", x.end(0, 2, 5), 0);
        due("alive 1 > 1", x.end(1, 0, 5), 0);
        due("alive 1 = 1", x.end(1, 1, 5), 1);
        due("alive 1 < 1", x.end(1, 2, 5), 0);
        due("yield 0 = 5", x.end(2, 0, 5), 0);
        due("yield 0 < 5", x.end(2, 1, 5), 1);
        due("no line end", x.end(2, 3, 5), 1);
        x.part(0, 2, 12);
        due("yield 5 = 5", x.end(2, 0, 5), 1);
        due("yield 5 < 5", x.end(2, 1, 5), 0);
        due("yield 5 > 5", x.end(2, 2, 5), 0);
        x.tell(0, 1, 6);
        due("yield 6 > 5", x.end(2, 2, 5), 1);
        x.run(2);
        due("year 2 < 2", x.end(0, 0, 5), 0);
        due("year 2 = 2", x.end(0, 1, 5), 1);
        due("year 2 > 2", x.end(0, 2, 5), 0);
        due("alive 2 > 1, each once, not the manager's", x.end(1, 0, 5), 1);
        due("alive 2 = 1", x.end(1, 1, 5), 0);
        x.run(1);
        due("year 3 > 2", x.end(0, 2, 5), 1);
        x.death(0, 1);
        x.death(1, 2);
        due("alive 0 < 1", x.end(1, 2, 5), 1);
    }

    private static void yields() {
        promise = 16;
        EndowBook x = new EndowBook();
        due("beyond", x.yields(0), BEYOND);
        Checks.read(x, "rest a");
        Checks.read(x, "rest a");
        due("nothing", x.yields(0), 0);
        x.thing(5, 100);
        x.thing(5, 7);
        x.part(0, 0, 7);
        x.part(1, 0, 5);
        x.part(1, 1, 7);
        due("58 + 2, each cut", x.yields(0), 60);
        due("4", x.yields(1), 4);
        x.ruin(0, 1);
        due("ruin", x.yields(0), 2);
        due("beyond above", x.yields(2), BEYOND);
        due("beyond below", x.yields(NONE), BEYOND);
    }

    private static EndowBook family() {
        EndowBook x = new EndowBook();
        x.person(NONE, 0);
        x.person(0, 2);
        x.person(0, 1);
        x.person(1, 3);
        x.person(1, 3);
        x.person(2, 4);
        x.thing(10, 1000);
        return x;
    }

    private static void manager() {
        promise = 17;
        EndowBook x = family();
        due("beyond", x.manager(0), BEYOND);
        Checks.read(x, "man 15 p0; rest a");
        Checks.read(x, "rest a");
        Checks.read(x, "man 15 p1 if year>4; rest a");
        x.part(0, 0, 11);
        due("itself", x.manager(0), 0);
        due("916 / 100 * 15", x.gets(0, 0), 137);
        due("no such end", x.manager(1), NONE);
        due("test isn't so", x.manager(2), NONE);
        x.run(5);
        due("test is so", x.manager(2), 1);
        x.death(0, 4);
        due("the one born first, not the first one", x.manager(0), 2);
        x.death(2, 4);
        x.death(1, 4);
        due("of those born in one year the first", x.manager(0), 3);
        x.death(3, 5);
        due("dies now", x.manager(0), 4);
        due("its line alone", x.manager(2), 4);
        x.unknown(4, 1);
        due("not an unknown one", x.manager(0), 5);
        due("none of the line", x.manager(2), NONE);
        x.taken(4, 1);
        due("a taken one", x.manager(0), 4);
        x.death(5, 4);
        x.taken(4, 0);
        due("none lives", x.manager(0), NONE);
        due("nothing taken", x.gets(0, 0), 0);
        due("all to the rest", x.gets(0, 1), 916);
        EndowBook y = family();
        Checks.read(y, "man 15 p1; line 1 p0 stem; rest a");
        y.run(5);
        due("of its own line, not of the line end's", y.manager(0), 1);
        due("beyond above", x.manager(3), BEYOND);
        due("beyond below", x.manager(-1), BEYOND);
    }

    private static void left() {
        promise = 18;
        EndowBook x = family();
        due("beyond", x.left(0), BEYOND);
        Checks.read(x, "man 10 p0; fix 500 b; line 3 p0 stem; fix 350 c if year<1; fix 200 b; rest a");
        x.part(0, 0, 12);
        due("nothing left", x.left(0), 0);
        due("fixed, as far as there is something", x.gets(0, 4), 50);
        x.run(1);
        due("a test that isn't so", x.left(0), 200);
        due("last fixed", x.gets(0, 4), 200);
        due("line of what is left", x.gets(0, 2), 50);
        x.death(0, 1);
        due("the manager is another now", x.left(0), 200);
        x.death(2, 1);
        due("no manager", x.left(0), 300);
        due("no line either", x.gets(0, 2), 0);
        due("beyond above", x.left(1), BEYOND);
        due("beyond below", x.left(-1), BEYOND);
    }

    private static void gets() {
        promise = 19;
        EndowBook x = family();
        due("beyond", x.gets(0, 0), BEYOND);
        Checks.read(x, "man 9 p0; line 4 p0 heads; line 5 p0 stem if alive>5; fix 7 a; fix 90 a if yield<500; rest a");
        x.part(0, 0, 12);
        x.run(4);
        due("manager", x.gets(0, 0), 90);
        due("903 * 4 / 72 cut, six times", x.gets(0, 1), 6 * 50);
        due("903 * 5 / 12 cut", x.gets(0, 2), 376);
        due("fixed", x.gets(0, 3), 7);
        due("left out", x.gets(0, 4), 0);
        due("the rest alone, not what else its house gets", x.gets(0, 5), 1000 - 90 - 7 - 300 - 376);
        x.death(3, 4);
        due("test not so any more", x.gets(0, 2), 0);
        due("five heads of 903", x.gets(0, 1), 5 * 60);
        due("rest then", x.gets(0, 5), 1000 - 90 - 7 - 300);
        due("a rest alone", Checks.read(x, "rest b"), 1);
        due("a fixed one first", Checks.read(x, "fix 70 b; rest c"), 2);
        x.thing(1, 120);
        x.part(1, 1, 6);
        x.part(1, 2, 6);
        due("all of it", x.gets(1, 0), 60);
        due("fixed one", x.gets(2, 0), 60);
        due("nothing for the rest", x.gets(2, 1), 0);
        due("end beyond", x.gets(0, 6), BEYOND);
        due("end none", x.gets(0, NONE), BEYOND);
        due("deed beyond", x.gets(3, 0), BEYOND);
    }

    private static void due() {
        promise = 20;
        EndowBook x = family();
        due("beyond", x.due(0, 0), BEYOND);
        Checks.read(x, "man 10 p0; line 6 p0 stem; line 6 p1 heads; rest a");
        x.part(0, 0, 12);
        x.run(4);
        due("manager and one line", x.due(0, 0), 100 + 450);
        due("heads", x.due(0, 1), 150);
        due("nothing", x.due(0, 2), 0);
        due("heads too", x.due(0, 4), 150);
        x.death(0, 4);
        due("stem and heads", x.due(0, 1), 225 + 150);
        due("manager and stem", x.due(0, 2), 100 + 225);
        x.death(1, 4);
        due("a half's half and a half", x.due(0, 3), 112 + 225);
        due("cut goes to the rest", x.gets(0, 3), 1);
        due("nothing by the parent's life", x.due(0, 5), 0);
        due("person beyond", x.due(0, 6), BEYOND);
        due("person below", x.due(0, -1), BEYOND);
        due("deed beyond", x.due(1, 0), BEYOND);
    }

    private static void fraction(EndowBook x, int i, int person, int upper, int lower) {
        due("upper of " + person + " by " + i, x.share(0, i, person, false), upper);
        due("lower of " + person + " by " + i, x.share(0, i, person, true), lower);
    }

    private static void shareByStem() {
        promise = 21;
        EndowBook x = new EndowBook();
        x.person(NONE, 0);
        for (int p = 1; p <= 3; p++) {
            x.person(0, 10);
        }
        x.person(1, 20);
        x.person(1, 20);
        x.person(2, 20);
        x.person(4, 30);
        x.person(4, 30);
        Checks.read(x, "man 1 p0; line 6 p0 stem if year>999; line 6 p0 heads; rest a");
        fraction(x, 1, 0, 1, 1);
        fraction(x, 1, 1, 0, 1);
        x.run(40);
        fraction(x, 2, 0, 1, 9);
        fraction(x, 2, 8, 1, 9);
        x.death(0, 40);
        fraction(x, 1, 0, 0, 1);
        fraction(x, 1, 1, 1, 3);
        fraction(x, 1, 4, 0, 1);
        fraction(x, 2, 0, 0, 1);
        fraction(x, 2, 4, 1, 8);
        x.death(3, 39);
        fraction(x, 1, 1, 1, 2);
        x.death(2, 39);
        x.death(1, 39);
        fraction(x, 1, 6, 1, 2);
        fraction(x, 1, 4, 1, 4);
        x.death(4, 39);
        fraction(x, 1, 7, 1, 8);
        fraction(x, 1, 5, 1, 4);
        x.unknown(7, 1);
        fraction(x, 1, 8, 1, 4);
        fraction(x, 1, 7, 0, 1);
        x.taken(7, 1);
        fraction(x, 1, 7, 1, 8);
        x.death(7, 30);
        x.death(8, 30);
        fraction(x, 1, 5, 1, 2);
        x.death(5, 30);
        fraction(x, 1, 6, 1, 1);
        fraction(x, 2, 6, 1, 1);
        x.death(6, 30);
        fraction(x, 1, 6, 0, 1);
        fraction(x, 2, 6, 0, 1);
    }

    private static void shareRefusals() {
        EndowBook x = family();
        Checks.read(x, "man 1 p0; line 1 p1 stem; fix 1 a; rest a");
        due("manager", x.share(0, 0, 0, true), 0);
        due("fixed", x.share(0, 2, 0, true), 0);
        due("rest", x.share(0, 3, 0, false), 0);
        due("kinds", x.status(KIND), 3);
        due("beyonds", x.status(BEYOND), 0);
        due("end", x.share(0, 4, 0, true), 0);
        due("end none", x.share(0, NONE, 0, true), 0);
        due("deed", x.share(1, 1, 0, true), 0);
        due("person", x.share(0, 1, 6, true), 0);
        due("person ahead of kind", x.share(0, 0, 6, true), 0);
        due("beyonds then", x.status(BEYOND), 5);
        due("kinds still", x.status(KIND), 3);
        due("not of the line: lower", x.share(0, 1, 0, true), 1);
        due("not of the line: upper", x.share(0, 1, 0, false), 0);
        due("no more beyonds", x.status(BEYOND), 5);
    }

    private static void bound() {
        promise = 22;
        EndowBook x = family();
        due("beyond", x.bound(0, 0, true), BEYOND);
        Checks.read(x, "line 12 p0 stem; rest a");
        Checks.read(x, "line 12 p0 heads if alive>4; rest a");
        x.part(0, 0, 6);
        x.part(0, 1, 6);
        x.run(3);
        due("all known: least", x.bound(0, 0, false), 500);
        due("all known: greatest", x.bound(0, 0, true), 500);
        x.unknown(0, 1);
        due("least of it", x.bound(0, 0, false), 0);
        due("greatest of it", x.bound(0, 0, true), 500);
        due("least of a child", x.bound(0, 2, false), 0);
        due("greatest of a child", x.bound(0, 2, true), 250);
        x.unknown(2, 1);
        due("two unknown: least of the other child", x.bound(0, 1, false), 0);
        due("greatest of the other child", x.bound(0, 1, true), 500);
        due("a test that turns on it: least", x.bound(1, 3, false), 0);
        due("a test that turns on it: greatest", x.bound(1, 3, true), 100);
        x.unknown(5, 1);
        due("not born: doesn't live in any way", x.bound(0, 5, true), 0);
        due("not born: no head either", x.bound(1, 3, true), 100);
        x.taken(2, 1);
        due("taken or not is all the same", x.bound(0, 1, true), 500);
        due("bounds leave taken as it is", x.look(2, 4), 1);
        x.run(1);
        due("born: it may live", x.bound(0, 5, true), 500 / 2);
        due("person beyond", x.bound(0, 6, true), BEYOND);
        due("person below", x.bound(0, -1, false), BEYOND);
        due("deed beyond", x.bound(2, 0, false), BEYOND);
    }

    private static void boundOfMany() {
        EndowBook x = new EndowBook();
        x.person(NONE, 0);
        for (int p = 1; p <= 6; p++) {
            x.person(0, 0);
        }
        x.death(0, 0);
        x.thing(1, 1200);
        Checks.read(x, "man 50 p0; line 12 p0 stem; rest a");
        x.part(0, 0, 12);
        for (int p = 1; p <= 5; p++) {
            x.unknown(p, 1);
        }
        due("last child: least", x.bound(0, 6, false), 100);
        due("last child: greatest", x.bound(0, 6, true), 1200);
        due("an unknown one: greatest", x.bound(0, 5, true), 600 + 300);
        due("an unknown one: least", x.bound(0, 5, false), 0);
        due("as they are taken", x.due(0, 6), 1200);
    }

    private static void run() {
        promise = 23;
        EndowBook x = new EndowBook();
        due("below", x.run(-1), BELOW);
        due("far below", x.run(MIN), BELOW);
        due("0", x.run(0), NO);
        due("101", x.run(101), NO);
        due("far above", x.run(MAX), NO);
        due("1", x.run(1), 1);
        for (int n = 1; n <= 5; n++) {
            due("100", x.run(100), 1 + 100 * n);
        }
        due("beyond 600", x.run(100), FULL);
        due("no ahead of full", x.run(101), NO);
        due("below ahead of full", x.run(-1), BELOW);
        due("to 600", x.run(99), 600);
        due("beyond", x.run(1), FULL);
        due("now", x.count(0), 600);
    }

    private static void account() {
        promise = 24;
        EndowBook x = family();
        Checks.read(x, "man 10 p0; fix 100 b; fix 5 a; line 6 p0 stem if year>0; rest a");
        Checks.read(x, "line 12 p1 heads; fix 11 b; rest h");
        x.part(0, 0, 6);
        x.part(0, 1, 6);
        due("nothing by now", x.account(0, false), 0);
        x.run(1);
        due("year 0: manager", x.account(0, false), 50);
        due("year 0: b", x.account(1, true), 111);
        due("year 0: a", x.account(0, true), 350);
        due("year 0: h", x.account(7, true), 489);
        x.run(1);
        due("year 1: manager and line", x.account(0, false), 100 + 172);
        due("year 1: a", x.account(0, true), 350 + 5 + 173);
        due("year 1: h", x.account(7, true), 978);
        x.run(1);
        due("year 2: p1", x.account(1, false), 489);
        due("year 2: h stays", x.account(7, true), 978);
        x.death(1, 3);
        x.run(1);
        due("year 3: p3", x.account(3, false), 244);
        due("year 3: p4", x.account(4, false), 244);
        due("year 3: h", x.account(7, true), 979);
        x.death(0, 1);
        due("what came stays", x.account(0, false), 50 + 3 * 222);
        EndowBook y = family();
        Checks.read(y, "fix 70 e; rest f");
        Checks.read(y, "rest g");
        y.part(0, 0, 6);
        y.part(0, 1, 6);
        y.run(2);
        due("fixed one first", y.account(4, true), 140);
        due("rest behind it", y.account(5, true), 860);
        due("rest alone", y.account(6, true), 1000);
        due("no refusal", x.status(BEYOND), 0);
        due("person beyond", x.account(6, false), 0);
        due("person below", x.account(-1, false), 0);
        due("house beyond", x.account(8, true), 0);
        due("house below", x.account(-1, true), 0);
        due("four", x.status(BEYOND), 4);
    }

    private static void lease() {
        promise = 25;
        EndowBook x = new EndowBook();
        due("beyond", x.lease(0, 0, 1, true), BEYOND);
        x.thing(5, 5);
        x.thing(5, 5);
        x.run(10);
        due("beyond ahead of no", x.lease(2, 0, 0, true), BEYOND);
        due("below", x.lease(-1, 10, 1, true), BEYOND);
        due("ahead of now", x.lease(0, 9, 1, true), NO);
        due("behind 700", x.lease(0, 701, 1, true), NO);
        due("0 years", x.lease(0, 10, 0, true), NO);
        due("100 years", x.lease(0, 10, 100, true), NO);
        due("long", x.lease(0, 10, 4, false), 0);
        due("is void", x.leased(0, 3), 0);
        due("not so long", x.lease(0, 10, 3, false), 1);
        due("holds, since a void one bars nothing", x.leased(1, 3), 1);
        due("last of its years", x.lease(0, 12, 1, false), 2);
        due("is void then", x.leased(2, 3), 0);
        due("behind it", x.lease(0, 13, 4, true), 3);
        due("holds by the judge", x.leased(3, 3), 1);
        due("over both, by the judge", x.lease(0, 11, 99, true), 4);
        due("is void all the same", x.leased(4, 3), 0);
        due("the other thing", x.lease(1, 11, 99, true), 5);
        due("is free", x.leased(5, 3), 1);
        due("ahead of it", x.lease(1, 10, 1, false), 6);
        due("holds", x.leased(6, 3), 1);
        x.ruin(0, 1);
        due("in ruin", x.lease(0, 700, 1, true), 7);
        due("is void in ruin", x.leased(7, 3), 0);
        due("the ones before hold still", x.leased(1, 3), 1);
        x.ruin(0, 0);
        due("void it stays", x.leased(7, 3), 0);
        due("mended", x.lease(0, 700, 99, true), 8);
        due("holds when mended", x.leased(8, 3), 1);
        for (int l = 9; l < 30; l++) {
            due("lease " + l, x.lease(1, 11, 1, true), l);
        }
        due("full", x.lease(1, 11, 1, true), FULL);
        due("no ahead of full", x.lease(1, 11, 0, true), NO);
    }

    private static void leased() {
        promise = 26;
        EndowBook x = new EndowBook();
        due("beyond", x.leased(0, 0), BEYOND);
        x.thing(5, 5);
        x.thing(5, 5);
        x.lease(1, 44, 7, true);
        x.lease(0, 700, 99, false);
        due("thing", x.leased(0, 0), 1);
        due("first year", x.leased(0, 1), 44);
        due("years", x.leased(0, 2), 7);
        due("holds", x.leased(0, 3), 1);
        due("second: thing", x.leased(1, 0), 0);
        due("second: first year", x.leased(1, 1), 700);
        due("second: years", x.leased(1, 2), 99);
        due("second: void", x.leased(1, 3), 0);
        due("no", x.leased(0, 4), NO);
        due("no below", x.leased(0, -1), NO);
        due("beyond above", x.leased(2, 0), BEYOND);
        due("beyond below", x.leased(-1, 0), BEYOND);
        due("beyond ahead of no", x.leased(2, 4), BEYOND);
    }

    private static void law() {
        promise = 27;
        EndowBook x = new EndowBook();
        x.thing(5, 5);
        due("0", x.law(0), NO);
        due("100", x.law(100), NO);
        due("below", x.law(-1), NO);
        due("first", x.law(99), 3);
        x.lease(0, 0, 99, false);
        due("longest", x.leased(0, 3), 1);
        due("then", x.law(1), 99);
        x.lease(0, 200, 2, false);
        due("too long", x.leased(1, 3), 0);
        x.lease(0, 200, 1, false);
        due("short", x.leased(2, 3), 1);
        due("an old one holds still", x.leased(0, 3), 1);
        due("last", x.law(7), 1);
    }

    private static void swap() {
        promise = 28;
        EndowBook x = new EndowBook();
        x.thing(100, 5);
        x.thing(111, 5);
        Checks.read(x, "rest a");
        Checks.read(x, "rest b");
        x.part(0, 0, 4);
        x.part(0, 1, 1);
        x.part(1, 1, 9);
        due("beyond", x.swap(0, 2, true), BEYOND);
        due("beyond below", x.swap(-1, 0, true), BEYOND);
        due("beyond and itself", x.swap(2, 2, true), BEYOND);
        due("itself", x.swap(1, 1, true), NO);
        due("no judge", x.swap(0, 1, false), 0);
        due("nothing done", x.parts(0, 0), 4);
        due("11 more of 111", x.swap(0, 1, true), 1);
        int[][] want = {{0, 9}, {4, 1}};
        for (int t = 0; t < 2; t++) {
            for (int d = 0; d < 2; d++) {
                due("parts " + t + " " + d, x.parts(t, d), want[t][d]);
            }
        }
        due("left of the one", x.parts(0, NONE), 3);
        due("left of the other", x.parts(1, NONE), 7);
        x.tell(1, 0, 112);
        due("12 more of 112", x.swap(0, 1, true), 0);
        due("the other way round", x.swap(1, 0, true), 0);
        due("nothing done again", x.parts(0, 1), 9);
        x.tell(1, 0, 100);
        x.lease(1, 2, 3, true);
        due("leased later", x.swap(0, 1, true), 0);
        x.run(4);
        due("leased now", x.swap(1, 0, true), 0);
        x.run(1);
        due("not leased any more", x.swap(1, 0, true), 1);
        due("swapped back", x.parts(0, 0), 4);
        due("swapped back too", x.parts(1, 1), 9);
        x.lease(0, 5, 4, false);
        due("a void one bars nothing", x.swap(1, 0, true), 1);
        x.ruin(0, 1);
        due("ruin bars nothing", x.swap(1, 0, true), 1);
        due("worth and yield stay", x.tell(1, 0, 9), 100);
        x.tell(0, 0, 9);
        due("small ones", x.swap(0, 1, true), 1);
        x.tell(0, 0, 10);
        due("one more of ten", x.swap(0, 1, true), 1);
        x.tell(1, 0, 8);
        due("two more of ten", x.swap(0, 1, true), 0);
    }

    private static void count() {
        promise = 29;
        EndowBook x = family();
        Checks.read(x, "rest a");
        Checks.read(x, "rest b");
        Checks.feedText(x, "rest");
        x.lease(0, 0, 1, false);
        x.lease(0, 0, 1, false);
        x.lease(0, 2, 1, false);
        x.run(3);
        x.death(0, 3);
        x.unknown(1, 1);
        x.unknown(2, 1);
        x.taken(2, 1);
        int[] want = {3, 6, 1, 2, 4, 3, 2, 2};
        for (int what = 0; what < want.length; what++) {
            due("count " + what, x.count(what), want[what]);
        }
        x.death(3, 3);
        due("one less lives", x.count(5), 2);
        due("8", x.count(8), NO);
        due("-1", x.count(-1), NO);
        due("extreme", x.count(MIN), NO);
    }

    private static void lay() {
        promise = 30;
        EndowBook x = new EndowBook();
        due("beyond", x.lay(0), BEYOND);
        due("no row by that", x.row(0), MISSING);
        Checks.read(x, "rest a");
        due("nobody", x.lay(0), 0);
        due("a row of none", x.row(0), BEYOND);
        due("it is there", x.tear(), 1);
        x = family();
        Checks.read(x, "man 10 p0; line 12 p0 heads; rest a");
        x.part(0, 0, 12);
        x.run(1);
        due("six", x.lay(0), 6);
        due("first", x.row(0), 100 + 450);
        due("second", x.row(1), 0);
        due("third", x.row(2), 450);
        due("beyond again", x.lay(1), BEYOND);
        due("below", x.lay(-1), BEYOND);
        due("the row stays", x.row(2), 450);
        x.death(0, 1);
        due("it is as it was laid", x.row(0), 550);
        x.person(NONE, 0);
        due("no longer than that", x.row(6), BEYOND);
        due("laid anew", x.lay(0), 7);
        due("first anew", x.row(0), 0);
        due("third anew", x.row(2), 1000);
        due("last anew", x.row(6), 0);
    }

    private static void tear() {
        promise = 31;
        EndowBook x = family();
        due("missing at first", x.tear(), 0);
        Checks.read(x, "rest a");
        x.lay(0);
        due("there", x.tear(), 1);
        due("missing", x.tear(), 0);
        due("no number", x.row(0), MISSING);
        due("no copy", x.copy(0, 0, 0), MISSING);
    }

    private static void row() {
        promise = 32;
        EndowBook x = family();
        due("missing", x.row(0), MISSING);
        due("missing ahead of beyond", x.row(-1), MISSING);
        Checks.read(x, "line 12 p0 stem; rest a");
        x.part(0, 0, 12);
        x.lay(0);
        due("first", x.row(0), 1000);
        due("last", x.row(5), 0);
        due("beyond", x.row(6), BEYOND);
        due("below", x.row(-1), BEYOND);
        due("extreme", x.row(MAX), BEYOND);
    }

    /** A row of 10, 20, 30, 40, 50, 60. */
    private static EndowBook laidBook() {
        EndowBook x = new EndowBook();
        for (int p = 0; p < 6; p++) {
            x.person(NONE, 0);
        }
        x.thing(1, 120);
        Checks.read(x, "line 1 p0 stem; line 2 p1 stem; line 3 p2 stem; line 4 p3 stem; rest a");
        x.part(0, 0, 12);
        x.lay(0);
        return x;
    }

    private static void rowDue(EndowBook x, int... want) {
        for (int i = 0; i < want.length; i++) {
            due("row " + i, x.row(i), want[i]);
        }
    }

    private static void copy() {
        promise = 33;
        EndowBook none = family();
        due("missing ahead of below", none.copy(-1, 9, -1), MISSING);
        EndowBook x = laidBook();
        rowDue(x, 10, 20, 30, 40, 0, 0);
        due("up, over itself", x.copy(0, 2, 4), 4);
        rowDue(x, 10, 20, 10, 20, 30, 40);
        due("down, over itself", x.copy(1, 0, 5), 5);
        rowDue(x, 20, 10, 20, 30, 40, 40);
        due("onto itself", x.copy(0, 0, 6), 6);
        due("none at the end", x.copy(6, 6, 0), 0);
        due("none behind the end", x.copy(7, 0, 0), COPY);
        due("none to behind the end", x.copy(0, 7, 0), COPY);
        due("below", x.copy(0, 0, -1), BELOW);
        due("below ahead of copy", x.copy(-1, 0, -1), BELOW);
        due("i below", x.copy(-1, 0, 1), COPY);
        due("j below", x.copy(0, -1, 1), COPY);
        due("i + n above", x.copy(1, 0, 6), COPY);
        due("j + n above", x.copy(0, 1, 6), COPY);
        due("seven", x.copy(0, 0, 7), COPY);
        due("sum that wraps round", x.copy(MAX, 0, 1), COPY);
        due("sum that wraps round at j", x.copy(0, MAX, MAX), COPY);
        due("extremes", x.copy(MIN, MIN, MAX), COPY);
        rowDue(x, 20, 10, 20, 30, 40, 40);
    }

    private static void status() {
        promise = 34;
        EndowBook x = new EndowBook();
        x.row(0);
        x.yields(0);
        x.yields(0);
        x.feed(0, -1);
        x.person(NONE, 0);
        x.taken(0, 1);
        x.taken(0, 1);
        Checks.read(x, "rest a");
        x.lay(0);
        x.copy(0, 0, 2);
        x.law(0);
        x.law(100);
        x.thing(1, 1);
        x.part(0, 0, 12);
        x.part(0, 0, 1);
        x.deed();
        int[] want = {1, 2, 1, 2, 1, 2, 1};
        for (int by = -2; by >= -8; by--) {
            due("status " + by, x.status(by), want[-2 - by]);
        }
        due("none", x.status(NONE), NO);
        due("0", x.status(0), NO);
        due("-9", x.status(-9), NO);
        due("extreme", x.status(MIN), NO);
        due("extreme above", x.status(MAX), NO);
        due("itself refused", x.status(NO), 2 + 5);
        due("faults are not counted", x.status(BEYOND), 2);
    }

    /** With every room full no call may go astray: the last of all has its number. */
    private static void fullBook() {
        promise = 1;
        EndowBook x = new EndowBook();
        for (int p = 0; p < 30; p++) {
            x.person(p - 1, p);
        }
        String[] texts = {
            "man 100 p29; line 12 p29 stem; rest h",
            "line 6 p0 stem; line 6 p29 heads; rest h",
            "line 2 p0 stem; line 2 p5 heads; line 3 p29 stem; line 5 p1 heads; fix 9999 h; rest h",
        };
        for (int d = 0; d < 6; d++) {
            due("deed " + d, Checks.read(x, texts[d % 3]), d);
        }
        for (int t = 0; t < 10; t++) {
            due("thing " + t, x.thing(9999, 9999), t);
            due("parts of " + t, x.part(t, 5 - t % 2, 12), 12);
        }
        for (int l = 0; l < 30; l++) {
            due("lease " + l, x.lease(9, 600 + l, 1, false), l);
        }
        for (int p = 25; p < 30; p++) {
            due("unknown " + p, x.unknown(p, 1), 0);
        }
        for (int k = 0; k < 6; k++) {
            due("year", x.run(100), 100 + 100 * k);
        }
        due("all but the unknown ones live", x.count(5), 25);
        due("line of the first", x.look(0, 6), 25);
        due("holding", x.count(6), 30);
        due("last lease", x.leased(29, 1), 629);
        due("yield", x.yields(5), 5 * 9999);
        due("left", x.left(5), 4 * 9999);
        due("most of the last", x.bound(5, 29, true), 9999 + 4 * 9999 * 2 / (12 * 21) + 4 * 9999 * 5 / (12 * 25));
        due("least of the last", x.bound(5, 29, false), 0);
        due("half of the other deed", x.bound(4, 29, true), 24997);
        due("row", x.lay(5), 30);
        due("last of the row", x.row(29), 0);
        due("one behind", x.row(30), BEYOND);
        due("whole row", x.copy(0, 0, 30), 30);
        due("swap", x.swap(8, 9, true), 0);
        due("swap of others", x.swap(7, 8, true), 1);
        due("parts of the other", x.parts(8, 4), 12);
        for (int p = 0; p < 24; p++) {
            x.death(p, p);
        }
        due("share down a long line", x.share(5, 0, 24, true), 1);
        due("share of its first", x.share(5, 0, 24, false), 1);
    }
}
