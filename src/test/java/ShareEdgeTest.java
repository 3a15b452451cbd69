/** Shares, bounds, years that go by and accounts (promises 20 to 24): a check for each sentence that names an edge. */
public final class ShareEdgeTest {
    private static final int BEYOND = EndowBook.BEYOND;
    private static final int BELOW = EndowBook.BELOW;
    private static final int NO = EndowBook.NO;
    private static final int FULL = EndowBook.FULL;
    private static final Sentences t = new Sentences();

    public static void main(String[] args) {
        shares();
        unknownOnes();
        years();
        t.endWithExitCode("ShareEdgeTest");
    }

    private static void shares() {
        t.sentence("a SHARE of 1 for its PERSON; a SHARE of one that LIVES is its own", ShareEdgeTest::ownShare);
        t.sentence("in equal parts, to those of its CHILDREN whose LINE has one that LIVES", ShareEdgeTest::partedShare);
        t.sentence("one that doesn't gives it: through many", ShareEdgeTest::leastShares);
        t.sentence("By heads: each of the LINE that LIVES has an equal SHARE", ShareEdgeTest::heads);
        t.sentence("If none of the LINE LIVES there is no SHARE", ShareEdgeTest::noShare);
        t.sentence("Each gets LEFT times NUMBER times its SHARE / 12, cut", ShareEdgeTest::cutShares);
        t.sentence("What a PERSON gets of a DEED in all", ShareEdgeTest::dueInAll);
        t.sentence("What a PERSON gets .. BEYOND", () -> beyondDeedOrPerson("due", ""));
        t.sentence("whatever its TEST", ShareEdgeTest::shareWithoutTest);
        t.sentence("in lowest terms (0 / 1: none)", ShareEdgeTest::lowestTerms);
        t.sentence("BEYOND ..: 0, and status() tells of it", ShareEdgeTest::shareBeyond);
        t.sentence("KIND: 0, and status() tells of it", ShareEdgeTest::shareKind);
    }

    private static void unknownOnes() {
        t.sentence("they LIVE .. just if they are told to be TAKEN so", ShareEdgeTest::takenShares);
        t.sentence("over all ways that UNKNOWN ones .. LIVE or don't", ShareEdgeTest::allWays);
        t.sentence("UNKNOWN ones that are born", ShareEdgeTest::bornWays);
        t.sentence("(5 at most in all)", ShareEdgeTest::fiveAtMost);
        t.sentence("LEAST and GREATEST: nobody is UNKNOWN", ShareEdgeTest::oneWay);
        t.sentence("LEAST (greatest false), or GREATEST", ShareEdgeTest::leastAndGreatest);
        t.sentence("LEAST .. BEYOND", () -> {
            beyondDeedOrPerson("bound", " false");
            beyondDeedOrPerson("bound", " true");
        });
    }

    private static void years() {
        t.sentence("n YEARS (1 .. 100) go by: NOW", ShareEdgeTest::yearNumbers);
        t.sentence("BELOW, NO (n)", ShareEdgeTest::yearRefusals);
        t.sentence("FULL: beyond 600", ShareEdgeTest::beyond600);
        t.sentence("DEEDS by numbers: what each PERSON, each HOUSE gets comes to its ACCOUNT", ShareEdgeTest::accounts);
        t.sentence("Then NOW is one more", ShareEdgeTest::nowIsOneMore);
        t.sentence("ACCOUNT of a PERSON (house false), or a HOUSE", ShareEdgeTest::whoseAccount);
        t.sentence("ACCOUNT .. BEYOND: 0, and status() tells of it", ShareEdgeTest::accountBeyond);
    }

    /** A book whose deed 0 has all of a thing of such a yield. */
    private static EndowBook book(int yield, String text, String... persons) {
        EndowBook x = Lines.book(persons);
        Lines.on(x, "thing 1 " + yield, "read " + text, "part 0 0 12");
        return x;
    }

    private static void shareDue(EndowBook x, int i, int person, int upper, int lower) {
        t.due(x, "share 0 " + i + " " + person + " false", upper);
        t.due(x, "share 0 " + i + " " + person + " true", lower);
    }

    private static void ownShare() {
        EndowBook x = book(100, "line 12 p1 stem; rest a", "person NONE 0", "person 0 0", "person 1 0", "person 1 0");
        shareDue(x, 0, 1, 1, 1);
        shareDue(x, 0, 0, 0, 1);
        shareDue(x, 0, 2, 0, 1);
        shareDue(x, 0, 3, 0, 1);
        Lines.on(x, "death 0 0");
        shareDue(x, 0, 1, 1, 1);
        Lines.on(x, "death 1 0");
        shareDue(x, 0, 1, 0, 1);
        shareDue(x, 0, 2, 1, 2);
        // of a line of one
        shareDue(book(100, "line 12 p0 stem; rest a", "person NONE 0"), 0, 0, 1, 1);
    }

    private static void partedShare() {
        // 1 lives; 2 is dead and has 5, who lives; 3 is dead with a dead child; 4 isn't born
        EndowBook x = book(120, "line 12 p0 stem; rest a", "person NONE 0", "person 0 0", "person 0 0", "person 0 0", "person 0 1",
            "person 2 0", "person 3 0", "person 1 0", "death 0 0", "death 2 0", "death 3 0", "death 6 0");
        int[] lower = {1, 2, 1, 1, 1, 2, 1, 1};
        int[] upper = {0, 1, 0, 0, 0, 1, 0, 0};
        for (int p = 0; p < 8; p++) {
            shareDue(x, 0, p, upper[p], lower[p]);
        }
        Lines.on(x, "run 1");
        shareDue(x, 0, 1, 1, 3);
        shareDue(x, 0, 4, 1, 3);
        shareDue(x, 0, 5, 1, 3);
        Lines.on(x, "death 1 1");
        shareDue(x, 0, 7, 1, 3);
        Lines.on(x, "death 7 1", "death 4 1");
        shareDue(x, 0, 5, 1, 1);
        // a root that isn't born has nobody who is
        shareDue(book(100, "line 12 p0 stem; rest a", "person NONE 1", "person 0 1"), 0, 0, 0, 1);
    }

    private static void leastShares() {
        EndowBook x = book(9999, "line 12 p0 stem; rest a", "person NONE 0");
        for (int parent = 0; parent < 27; parent += 3) {
            Lines.on(x, Lines.times(3, "person " + parent + " 0"));
            Lines.on(x, "death " + parent + " 0");
        }
        int lower = 1;
        for (int level = 0; level < 9; level++) {
            lower *= 3;
            shareDue(x, 0, 3 * level + 1, 1, lower);
            shareDue(x, 0, 3 * level + 2, 1, lower);
        }
        t.due(x, "share 0 0 27 true", 19683);
        t.due(x, "due 0 27", 0);
        for (int thing = 1; thing < 10; thing++) {
            Lines.on(x, "thing 1 9999", "part " + thing + " 0 12");
        }
        t.due(x, "due 0 27", 5);
        t.due(x, "due 0 1", 33330);
    }

    private static void heads() {
        EndowBook x = book(60, "line 12 p0 heads; line 0 p2 heads; rest a", "person NONE 0", "person 0 0", "person 1 0", "person NONE 0");
        shareDue(x, 0, 0, 1, 3);
        shareDue(x, 0, 2, 1, 3);
        shareDue(x, 0, 3, 0, 1);
        shareDue(x, 1, 2, 1, 1);
        shareDue(x, 1, 0, 0, 1);
        shareDue(x, 1, 1, 0, 1);
        Lines.on(x, "death 0 0");
        shareDue(x, 0, 0, 0, 1);
        shareDue(x, 0, 1, 1, 2);
        Lines.on(x, "death 1 0");
        shareDue(x, 0, 2, 1, 1);
        EndowBook most = Lines.book("person NONE 0");
        Lines.on(most, Lines.times(29, "person 0 0"));
        Lines.on(most, "thing 1 60", "read line 12 p0 heads; rest a", "part 0 0 12");
        shareDue(most, 0, 29, 1, 30);
        t.due(most, "due 0 29", 2);
        t.due(most, "gets 0 0", 60);
    }

    private static void noShare() {
        for (String how : new String[] {"stem", "heads"}) {
            EndowBook x = book(100, "line 12 p0 " + how + "; rest a", "person NONE 1", "person 0 1", "person NONE 0", "death 0 2", "death 1 3");
            shareDue(x, 0, 0, 0, 1);
            shareDue(x, 0, 1, 0, 1);
            t.due(x, "gets 0 0", 0);
            t.due(x, "gets 0 1", 100);
            Lines.on(x, "run 2");
            shareDue(x, 0, 1, 1, 1);
            Lines.on(x, "run 1");
            shareDue(x, 0, 1, 0, 1);
            t.due(x, "gets 0 1", 100);
            t.due(x, "due 0 2", 0);
        }
    }

    private static void cutShares() {
        // 35 / 24, 36 / 24 and so on: cut for each, and not ahead of that
        int[][] cases = {{7, 5, 1}, {11, 6, 2}, {11, 2, 0}, {12, 2, 1}, {24, 1, 1}, {23, 1, 0}, {1, 12, 0}, {2, 12, 1}};
        for (int[] one : cases) {
            EndowBook x = book(one[0], "line " + one[1] + " p0 stem; rest a", "person NONE 0", "person 0 0", "person 0 0", "death 0 0");
            t.due(x, "due 0 1", one[2]);
            t.due(x, "due 0 2", one[2]);
            t.due(x, "gets 0 0", 2 * one[2]);
            t.due(x, "gets 0 1", one[0] - 2 * one[2]);
        }
    }

    private static void dueInAll() {
        EndowBook x = book(100, "man 10 p0; line 1 p0 stem; line 1 p0 heads; line 10 p0 stem if year=1; rest a", "person NONE 0", "person NONE 0");
        t.due(x, "due 0 0", 10 + 7 + 7);
        t.due(x, "due 0 1", 0);
        Lines.on(x, "run 1");
        t.due(x, "due 0 0", 10 + 7 + 7 + 75);
        t.due(x, "account 0 false", 24);
    }

    private static void beyondDeedOrPerson(String name, String end) {
        EndowBook x = Lines.book("read rest a");
        t.due(x, name + " 0 0" + end, BEYOND);
        Lines.on(x, "person NONE 0", "person NONE 0", "read rest b");
        t.due(x, name + " 1 1" + end, 0);
        String[] wrong = {" 0 2", " 0 -1", " 2 0", " -1 0", " 2 2", " 0 MIN", " 0 MAX", " MIN 0", " MAX 0"};
        for (String one : wrong) {
            t.due(x, name + one + end, BEYOND);
        }
        Lines.on(x, Lines.times(28, "person NONE 0"));
        Lines.on(x, Lines.times(4, "read rest c"));
        t.due(x, name + " 5 29" + end, 0);
        t.due(x, name + " 6 29" + end, BEYOND);
        t.due(x, name + " 5 30" + end, BEYOND);
    }

    private static void shareWithoutTest() {
        EndowBook x = book(100, "line 12 p0 stem if year=1; rest a", "person NONE 0");
        shareDue(x, 0, 0, 1, 1);
        t.due(x, "due 0 0", 0);
        Lines.on(x, "run 1");
        shareDue(x, 0, 0, 1, 1);
        t.due(x, "due 0 0", 100);
    }

    private static void lowestTerms() {
        EndowBook x = book(100, "line 0 p0 stem; line 12 p0 heads; rest a", "person NONE 0", "person 0 0", "person 0 0", "person NONE 0",
            "death 0 0");
        shareDue(x, 0, 1, 1, 2);
        shareDue(x, 1, 1, 1, 2);
        shareDue(x, 0, 0, 0, 1);
        shareDue(x, 1, 3, 0, 1);
        t.due(x, "status -3", 0);
        t.due(x, "status -5", 0);
    }

    private static void shareBeyond() {
        EndowBook x = book(100, "line 1 p0 stem; rest a", "person NONE 0");
        String[] wrong = {"1 0 0", "-1 0 0", "0 2 0", "0 NONE 0", "0 0 1", "0 0 -1", "MIN 0 0", "0 MAX 0", "0 0 MAX", "0 1 1", "9 9 9"};
        for (int k = 0; k < wrong.length; k++) {
            t.due(x, "share " + wrong[k] + " true", 0);
            t.due(x, "share " + wrong[k] + " false", 0);
            t.due(x, "status -3", 2 * k + 2);
        }
        t.due(x, "status -5", 0);
    }

    private static void shareKind() {
        EndowBook x = book(100, "man 1 p0; fix 1 a; line 1 p0 stem; rest a", "person NONE 0");
        int told = 0;
        for (int i : new int[] {0, 1, 3}) {
            t.due(x, "share 0 " + i + " 0 true", 0);
            t.due(x, "share 0 " + i + " 0 false", 0);
            told += 2;
            t.due(x, "status -5", told);
        }
        shareDue(x, 2, 0, 1, 1);
        t.due(x, "status -5", told);
        t.due(x, "status -3", 0);
    }

    private static void takenShares() {
        EndowBook x = book(100, "man 10 p0; line 12 p0 stem; rest a", "person NONE 0", "person 0 0", "unknown 0 1");
        shareDue(x, 1, 0, 0, 1);
        t.due(x, "manager 0", 1);
        t.due(x, "due 0 1", 100);
        Lines.on(x, "taken 0 1");
        shareDue(x, 1, 0, 1, 1);
        t.due(x, "manager 0", 0);
        t.due(x, "due 0 0", 100);
        Lines.on(x, "taken 0 0");
        t.due(x, "due 0 0", 0);
        Lines.on(x, "run 1", "taken 0 1", "run 2");
        t.due(x, "account 1 false", 100);
        t.due(x, "account 0 false", 200);
    }

    /** Person 0 is dead; 1 .. 5, of whom so many are unknown, and 6 are its children. */
    private static EndowBook siblings(String text, int unknown) {
        EndowBook x = book(1200, text, "person NONE 0", "person 0 0", "person 0 0", "person 0 0", "person 0 0", "person 0 0", "person 0 0",
            "death 0 0");
        for (int p = 1; p <= unknown; p++) {
            Lines.on(x, "unknown " + p + " 1");
        }
        return x;
    }

    private static void allWays() {
        for (int alive = 0; alive <= 7; alive++) {
            EndowBook x = siblings("line 12 p0 heads if alive=" + alive + "; rest a", 5);
            boolean may = alive >= 1 && alive <= 6;
            t.due(x, "bound 0 6 true", may ? 1200 / alive : 0);
            t.due(x, "bound 0 6 false", 0);
            for (int p = 1; p <= 5; p++) {
                t.due(x, "bound 0 " + p + " true", may && alive > 1 ? 1200 / alive : 0);
                t.due(x, "bound 0 " + p + " false", 0);
            }
            t.due(x, "bound 0 0 true", 0);
        }
        // just one way is without it: all of them live
        EndowBook y = siblings("line 12 p0 heads if alive<6; rest a", 5);
        t.due(y, "bound 0 6 false", 0);
        // and just one: none of them does
        EndowBook z = siblings("line 12 p0 heads if alive>1; rest a", 5);
        t.due(z, "bound 0 6 false", 0);
        t.due(z, "bound 0 6 true", 600);
        // the first person of all and the last one are among them
        EndowBook ends = book(1200, "line 12 p0 stem; rest a", "person NONE 0");
        Lines.on(ends, Lines.times(29, "person 0 0"));
        Lines.on(ends, "unknown 0 1", "unknown 29 1");
        t.due(ends, "bound 0 0 false", 0);
        t.due(ends, "bound 0 0 true", 1200);
        t.due(ends, "bound 0 29 true", 1200 / 29);
        t.due(ends, "bound 0 1 true", 1200 / 28);
        t.due(ends, "bound 0 1 false", 0);
    }

    private static void bornWays() {
        EndowBook x = book(1200, "line 12 p0 heads if alive=3; rest a", "person NONE 0", "person NONE 0", "person 0 0", "person 0 1", "unknown 2 1",
            "unknown 3 1", "taken 3 1");
        t.due(x, "bound 0 0 true", 0);
        t.due(x, "bound 0 3 true", 0);
        Lines.on(x, "run 1");
        t.due(x, "bound 0 0 true", 400);
        t.due(x, "bound 0 3 true", 400);
        t.due(x, "bound 0 0 false", 0);
        // one that isn't born doesn't take the turn of one that is
        EndowBook y = book(1200, "line 12 p0 stem; rest a", "person NONE 0", "person 0 0", "person 0 5", "person 0 0", "death 0 0", "unknown 2 1",
            "unknown 3 1");
        t.due(y, "bound 0 1 false", 600);
        t.due(y, "bound 0 1 true", 1200);
        t.due(y, "bound 0 3 true", 600);
        t.due(y, "bound 0 2 true", 0);
    }

    private static void fiveAtMost() {
        for (int unknown = 0; unknown <= 5; unknown++) {
            EndowBook x = siblings("line 12 p0 stem; rest a", unknown);
            t.due(x, "count 7", unknown);
            t.due(x, "bound 0 6 false", 200);
            t.due(x, "bound 0 6 true", 1200 / (6 - unknown));
            t.due(x, "bound 0 1 false", unknown == 0 ? 200 : 0);
            t.due(x, "bound 0 1 true", unknown == 0 ? 200 : 1200 / (7 - unknown));
            t.due(x, "unknown 6 1", unknown == 5 ? FULL : 0);
        }
    }

    private static void oneWay() {
        EndowBook x = siblings("man 10 p0; line 12 p0 stem; rest a", 0);
        for (int p = 0; p <= 6; p++) {
            int due = p == 0 ? 0 : p == 1 ? 120 + 180 : 180;
            t.due(x, "due 0 " + p, due);
            t.due(x, "bound 0 " + p + " false", due);
            t.due(x, "bound 0 " + p + " true", due);
        }
    }

    private static void leastAndGreatest() {
        EndowBook x = siblings("man 50 p0; line 12 p0 stem; rest a", 2);
        t.due(x, "bound 0 1 false", 0);
        t.due(x, "bound 0 1 true", 600 + 120);
        t.due(x, "bound 0 2 true", 600 + 120);
        t.due(x, "bound 0 3 false", 100);
        t.due(x, "bound 0 3 true", 600 + 150);
        t.due(x, "bound 0 6 false", 100);
        t.due(x, "bound 0 6 true", 150);
        // what is taken plays no part, and stays
        Lines.on(x, "taken 1 1");
        t.due(x, "bound 0 1 false", 0);
        t.due(x, "bound 0 3 true", 600 + 150);
        t.due(x, "due 0 1", 600 + 120);
        t.due(x, "taken 1 1", 1);
        t.due(x, "taken 2 1", 0);
    }

    private static void yearNumbers() {
        EndowBook x = new EndowBook();
        t.due(x, "run 1", 1);
        t.due(x, "run 100", 101);
        t.due(x, "run 99", 200);
        t.due(x, "run 2", 202);
        t.due(x, "count 0", 202);
    }

    private static void yearRefusals() {
        EndowBook x = Lines.book("run 7");
        t.refused(x, BELOW, "run -1", "run -100", "run MIN");
        t.refused(x, NO, "run 0", "run 101", "run MAX");
        t.due(x, "count 0", 7);
    }

    private static void beyond600() {
        EndowBook x = Lines.book(Lines.times(5, "run 100"));
        Lines.on(x, "run 1");
        t.due(x, "run 100", FULL);
        t.due(x, "count 0", 501);
        t.due(x, "run 99", 600);
        t.refused(x, FULL, "run 1", "run 100");
        t.refused(x, NO, "run 0", "run 101");
        t.due(x, "run -1", BELOW);
        t.due(x, "count 0", 600);
        EndowBook y = Lines.book(Lines.times(6, "run 100"));
        t.due(y, "count 0", 600);
        t.due(y, "run 1", FULL);
        EndowBook z = Lines.book(Lines.times(5, "run 100"));
        Lines.on(z, "run 99");
        t.due(z, "run 2", FULL);
        t.due(z, "run 1", 600);
    }

    private static void accounts() {
        EndowBook x = Lines.book("person NONE 0", "thing 1 100", "thing 1 200", "read man 10 p0; fix 5 b; rest a", "read fix 7 b; line 6 p0 stem; rest b",
            "part 0 0 12", "part 1 1 12");
        Lines.on(x, "run 1");
        t.due(x, "account 0 false", 10 + 96);
        t.due(x, "account 0 true", 85);
        t.due(x, "account 1 true", 5 + 7 + 97);
        Lines.on(x, "run 2");
        t.due(x, "account 0 false", 3 * 106);
        t.due(x, "account 0 true", 3 * 85);
        t.due(x, "account 1 true", 3 * 109);
        for (int house = 2; house < 8; house++) {
            t.due(x, "account " + house + " true", 0);
        }
    }

    private static void nowIsOneMore() {
        EndowBook x = book(10, "fix 3 b if year=0; fix 4 c if year=1; fix 5 d if year=2; line 0 p0 stem; rest a", "person NONE 0");
        Lines.on(x, "run 1");
        t.due(x, "account 1 true", 3);
        t.due(x, "account 2 true", 0);
        Lines.on(x, "run 1");
        t.due(x, "account 2 true", 4);
        t.due(x, "account 3 true", 0);
        EndowBook y = book(10, "line 12 p0 stem; rest a", "person NONE 2", "death 0 4");
        Lines.on(y, "run 2");
        t.due(y, "account 0 false", 0);
        Lines.on(y, "run 2");
        t.due(y, "account 0 false", 20);
        Lines.on(y, "run 2");
        t.due(y, "account 0 false", 20);
        t.due(y, "account 0 true", 40);
    }

    private static void whoseAccount() {
        EndowBook x = book(10, "man 30 p1; rest b", "person NONE 0", "person NONE 0");
        t.due(x, "account 1 false", 0);
        t.due(x, "account 1 true", 0);
        Lines.on(x, "run 1");
        t.due(x, "account 1 false", 3);
        t.due(x, "account 1 true", 7);
        t.due(x, "account 0 false", 0);
        t.due(x, "account 0 true", 0);
        t.due(x, "status -3", 0);
    }

    private static void accountBeyond() {
        EndowBook x = Lines.book("person NONE 0", "person NONE 0");
        t.due(x, "account 1 false", 0);
        t.due(x, "account 7 true", 0);
        t.due(x, "status -3", 0);
        String[] wrong = {"2 false", "-1 false", "8 true", "-1 true", "MIN false", "MAX false", "MIN true", "MAX true", "7 false"};
        for (int k = 0; k < wrong.length; k++) {
            t.due(x, "account " + wrong[k], 0);
            t.due(x, "status -3", k + 1);
        }
        Lines.on(x, Lines.times(28, "person NONE 0"));
        t.due(x, "account 29 false", 0);
        t.due(x, "status -3", wrong.length);
        t.due(x, "account 30 false", 0);
        t.due(x, "status -3", wrong.length + 1);
    }
}
