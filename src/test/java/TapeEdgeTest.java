/** The tape and what is read from it (promises 12 to 15): a check for each sentence that names an edge. */
public final class TapeEdgeTest {
    private static final int BEYOND = EndowBook.BEYOND;
    private static final int BELOW = EndowBook.BELOW;
    private static final int KIND = EndowBook.KIND;
    private static final int NO = EndowBook.NO;
    private static final int FULL = EndowBook.FULL;
    private static final int FAULT = -10;
    private static final int MOST_BYTES = 120;
    /** Six ends, 120 bytes. */
    private static final String LONGEST = "man 0010 p00 if yield>0000; line 0001 p00 heads if yield>0000; "
        + "line 01 p00 heads if yield>0000; fix 1 a; fix 1 a; rest a";
    private static final String[] SOUND = {
        "rest a",
        "fix 50 c if year<7; rest h",
        "man 10 p0; line 6 p0 stem if alive>2; fix 50 c; rest a",
        "line 1 p00 heads if yield=1234; line 2 p0 stem; rest d",
        LONGEST,
    };
    private static final Sentences t = new Sentences();

    public static void main(String[] args) {
        feeding();
        texts();
        words();
        refusals();
        ends();
        t.endWithExitCode("TapeEdgeTest");
    }

    private static void feeding() {
        t.sentence("THE TAPE is empty", TapeEdgeTest::emptyTape);
        t.sentence("THE TAPE gets the n lowest bytes .., the highest of these first", TapeEdgeTest::lowestBytes);
        t.sentence("(n 0 .. 4)", TapeEdgeTest::byteNumbers);
        t.sentence("BELOW, NO: n", TapeEdgeTest::byteRefusals);
        t.sentence("THE TAPE (bytes, 120 at most)", TapeEdgeTest::bytes120);
        t.sentence("THE TAPE is empty: how many bytes it had", TapeEdgeTest::wiping);
    }

    private static void texts() {
        t.sentence("The FAULT is the place of the first byte with which no DEED begins so", TapeEdgeTest::spoiltBytes);
        t.sentence("(the end of THE TAPE, if it ends too early)", TapeEdgeTest::earlyEnds);
        t.sentence("-10 less the FAULT (THE TAPE stays)", TapeEdgeTest::tapeStays);
        t.sentence("THE TAPE is a DEED: its number; THE TAPE is empty then", TapeEdgeTest::numbers);
        t.sentence("ENDS, 6 at most", TapeEdgeTest::sixEnds);
        t.sentence("between two of them ; and a blank", TapeEdgeTest::betweenEnds);
        t.sentence("The last one is: rest HOUSE", TapeEdgeTest::restIsLast);
        t.sentence("and no other one is that", TapeEdgeTest::restIsOne);
        t.sentence("man NUMBER PERSON (one at most, the first END)", TapeEdgeTest::manIsFirst);
        t.sentence("each of these may have behind it: blank if blank TEST", TapeEdgeTest::testsBehind);
    }

    private static void words() {
        t.sentence("One blank stands between WORDS", TapeEdgeTest::blanks);
        t.sentence("NUMBER: 1 to 4 digits", TapeEdgeTest::digitsOfNumbers);
        t.sentence("PERSON: p and 1 or 2 digits", TapeEdgeTest::digitsOfPersons);
        t.sentence("HOUSE: a letter a .. h", TapeEdgeTest::houseLetters);
        t.sentence("HOW: stem heads", TapeEdgeTest::hows);
        t.sentence("one of = < >", TapeEdgeTest::signs);
        t.sentence("NUMBER, without blanks", TapeEdgeTest::testWithoutBlanks);
        t.sentence("FIELD: year yield alive", TapeEdgeTest::fields);
    }

    private static void refusals() {
        t.sentence("NO, if of man NUMBER is above 100", TapeEdgeTest::manAbove100);
        t.sentence("NUMBERS of all line ENDS come to more than 12", TapeEdgeTest::linesAbove12);
        t.sentence("or a PERSON is none", TapeEdgeTest::personIsNone);
        t.sentence("DEEDS 0 .. 5 as they come", TapeEdgeTest::sixDeeds);
        t.sentence("No .. DEEDS", TapeEdgeTest::noDeeds);
    }

    private static void ends() {
        t.sentence("How many ENDS a DEED has (i = NONE, what any)", TapeEdgeTest::howManyEnds);
        t.sentence("or of END i", TapeEdgeTest::endNumbers);
        t.sentence("its KIND (what = 0)", TapeEdgeTest::kinds);
        t.sentence("NUMBER (1; KIND of a REST)", TapeEdgeTest::endNumber);
        t.sentence("PERSON (2; of LINES, MANAGERS; KIND of others)", TapeEdgeTest::endPerson);
        t.sentence("HOUSE (3; of FIXED, REST; KIND of others)", TapeEdgeTest::endHouse);
        t.sentence("HOW (4; 0 stem, 1 heads; of LINES; KIND of others)", TapeEdgeTest::endHow);
        t.sentence("whether its TEST is so now (5; 1 without one)", TapeEdgeTest::endTest);
        t.sentence("END ..: NO", TapeEdgeTest::endWhat);
        t.sentence("HOUSES are a .. h (0 .. 7)", TapeEdgeTest::eightHouses);
    }

    /** One person, no deed: what deed() answers to the text. */
    private static void reads(String text, int want) {
        t.due(Lines.book("person NONE 0"), "read " + text, want);
    }

    private static void fault(String text, int place) {
        reads(text, FAULT - place);
    }

    /** The part ahead of | is sound, and the byte behind it (or the end of the text) is at fault. */
    private static void faults(String... texts) {
        for (String text : texts) {
            int place = text.indexOf('|');
            fault(text.substring(0, place) + text.substring(place + 1), place);
        }
    }

    private static void fine(String... texts) {
        for (String text : texts) {
            reads(text, 0);
        }
    }

    private static void emptyTape() {
        EndowBook x = new EndowBook();
        t.due(x, "count 4", 0);
        t.due(x, "wipe", 0);
        t.due(x, "deed", FAULT);
        t.due(x, "feed 1 0", 0);
        t.due(x, "deed", FAULT);
        t.due(x, "count 3", 0);
    }

    private static void lowestBytes() {
        EndowBook x = Lines.book("feed " + 0x72657374 + " 4", "feed " + 0xFFFF2061 + " 2");
        t.due(x, "deed", 0);
        t.due(x, "end 0 0 3", 0);
        x = Lines.book("feed " + 0xFF726573 + " 3", "feed " + 0x61616174 + " 1", "feed " + 0x80002062 + " 2");
        t.due(x, "deed", 0);
        t.due(x, "end 0 0 3", 1);
        x = Lines.book("feed " + 0x61616172 + " 1", "feed " + 0xFF657374 + " 3", "feed -1 0", "feed " + 0x0020 + " 1");
        t.due(x, "feed " + 0xFFFFFF68 + " 1", 6);
        t.due(x, "deed", 0);
        t.due(x, "end 0 0 3", 7);
        // a byte above 127 stands at its own place, as does 0
        t.due(Lines.book("feed " + 0xF2657374 + " 4"), "deed", FAULT);
        t.due(Lines.book("feed " + 0x72E57374 + " 4"), "deed", FAULT - 1);
        t.due(Lines.book("feed " + 0x7265F374 + " 4"), "deed", FAULT - 2);
        t.due(Lines.book("feed " + 0x726573F4 + " 4"), "deed", FAULT - 3);
        t.due(Lines.book("feed 114 4"), "deed", FAULT);
        t.due(Lines.book("feed " + 0x72650000 + " 4"), "deed", FAULT - 2);
    }

    private static void byteNumbers() {
        EndowBook x = new EndowBook();
        t.due(x, "feed 7 0", 0);
        t.due(x, "feed 7 1", 1);
        t.due(x, "feed 7 2", 3);
        t.due(x, "feed 7 3", 6);
        t.due(x, "feed 7 4", 10);
        t.due(x, "feed MIN 4", 14);
        t.due(x, "feed MAX 4", 18);
        t.due(x, "count 4", 18);
    }

    private static void byteRefusals() {
        EndowBook x = Lines.book("feed 7 2");
        t.refused(x, BELOW, "feed 7 -1", "feed 7 MIN");
        t.refused(x, NO, "feed 7 5", "feed 7 MAX");
        t.due(x, "count 4", 2);
    }

    private static void bytes120() {
        for (int n = 0; n <= 4; n++) {
            EndowBook x = Lines.book(Lines.times(29, "feed 7 4"));
            Lines.on(x, "feed 7 " + (4 - n));
            t.due(x, "count 4", MOST_BYTES - n);
            if (n < 4) {
                t.due(x, "feed 7 " + (n + 1), FULL);
                t.due(x, "feed 7 4", FULL);
            }
            t.due(x, "count 4", MOST_BYTES - n);
            t.due(x, "feed 7 " + n, MOST_BYTES);
            t.due(x, "feed 7 1", FULL);
            t.due(x, "feed 7 0", MOST_BYTES);
            t.due(x, "count 4", MOST_BYTES);
        }
        t.due(Lines.book("person NONE 0"), "type " + LONGEST, MOST_BYTES);
        fine(LONGEST);
        String ends = "line 1234 p12 stem if yield>1234; line 1234 p12 stem if yield>1234; line 1234 p12 stem if yield>1234; ";
        fault((ends + "line 1234 p12 stem if yield").substring(0, MOST_BYTES), MOST_BYTES);
        fault((ends + "line 1234 p12 stem if yield").substring(0, MOST_BYTES - 1) + "x", MOST_BYTES - 1);
    }

    private static void wiping() {
        EndowBook x = Lines.book(Lines.times(30, "feed 7 4"));
        t.due(x, "wipe", MOST_BYTES);
        t.due(x, "count 4", 0);
        t.due(x, "wipe", 0);
        t.due(x, "feed 7 1", 1);
        t.due(x, "wipe", 1);
        t.due(x, "deed", FAULT);
        t.due(x, "type " + LONGEST, MOST_BYTES);
        t.due(x, "wipe", MOST_BYTES);
    }

    private static void spoiltBytes() {
        for (String text : SOUND) {
            fine(text);
            for (int place = 0; place < text.length(); place++) {
                for (char sign : new char[] {0, '!', '~', 'X', 255}) {
                    fault(text.substring(0, place) + sign + text.substring(place + 1), place);
                }
            }
            if (text.length() < MOST_BYTES) {
                fault(text + "a", text.length());
                fault(text + " ", text.length());
                fault(text + ";", text.length());
                fault(text + (char) 0, text.length());
            }
        }
        // the first one counts, though there are more of them
        faults("rest |x; rest y", "|x", "fix |p1; line 1 p0 bole; rest x", "man 101 p0; rest |x");
    }

    private static void earlyEnds() {
        for (String text : SOUND) {
            for (int n = 0; n < text.length(); n++) {
                fault(text.substring(0, n), n);
            }
        }
        faults("fix 1234|", "line 1234 p12|", "line 1234 p12 heads|", "man 100 p0|", "man 100 p0; |", "fix 1 a if alive>9999|");
    }

    private static void tapeStays() {
        EndowBook x = Lines.book("person NONE 0", "type fix 12 a; res");
        t.due(x, "deed", FAULT - 13);
        t.due(x, "count 4", 13);
        t.due(x, "deed", FAULT - 13);
        Lines.on(x, "feed " + ('t' << 16 | ' ' << 8 | 'b') + " 3");
        t.due(x, "deed", 0);
        t.due(x, "end 0 0 1", 12);
        t.due(x, "count 3", 1);
        // a fault is no refusal by -2 .. -8
        for (int by = -2; by >= -8; by--) {
            t.due(x, "status " + by, 0);
        }
    }

    private static void numbers() {
        // nothing stays of a text that was no deed
        EndowBook after = Lines.book("person NONE 0", "read fix 8 b if year=9; line 1 p0 heads if year=9; fix 2 c if year=9; x",
            "read man 101 p0 if year=9; rest h", "read line 5 p0 stem; fix 7 c; rest d");
        int[][] ends = {{1, 5, 0, KIND, 0, 1}, {0, 7, KIND, 2, KIND, 1}, {3, KIND, KIND, 3, KIND, 1}};
        t.due(after, "end 0 NONE 0", 3);
        for (int i = 0; i < 3; i++) {
            for (int what = 0; what < 6; what++) {
                t.due(after, "end 0 " + i + " " + what, ends[i][what]);
            }
        }
        EndowBook x = Lines.book("type rest a");
        t.due(x, "deed", 0);
        t.due(x, "count 4", 0);
        t.due(x, "deed", FAULT);
        t.due(x, "wipe", 0);
        t.due(x, "read rest b", 1);
        t.due(x, "end 0 0 3", 0);
        t.due(x, "end 1 0 3", 1);
    }

    private static String fixes(int n) {
        StringBuilder text = new StringBuilder();
        for (int k = 0; k < n; k++) {
            text.append("fix 1 a; ");
        }
        return text.toString();
    }

    private static void sixEnds() {
        for (int n = 0; n <= 5; n++) {
            EndowBook x = new EndowBook();
            t.due(x, "read " + fixes(n) + "rest a", 0);
            t.due(x, "end 0 NONE 0", n + 1);
        }
        String five = fixes(5);
        faults(five + "|fix 1 a; rest a", five + "|line 1 p0 stem; rest a", five + "|man 1 p0; rest a", five + "|x", five + "|");
        faults(five + "r|", five + "rest a|; rest a", five + "rest a|; ", fixes(4) + "fix 1 a; r|ix 1 a; rest a");
        fine(fixes(4) + "line 1 p0 stem; rest a", "man 1 p0; " + fixes(4) + "rest a");
        faults("man 1 p0; " + fixes(4) + "|fix 1 a; rest a");
    }

    private static void betweenEnds() {
        faults("fix 1 a|, rest a", "fix 1 a;|rest a", "fix 1 a; | rest a", "fix 1 a |; rest a", "fix 1 a|rest a");
        faults("fix 1 a;|; rest a", "fix 1 a;|", "fix 1 a; |", "man 1 p0;|fix 1 a; rest a", "line 1 p0 stem;|rest a");
        faults("fix 1 a if year=1;|rest a", "fix 1 a if year=1| ; rest a", "|; rest a", "| rest a");
    }

    private static void restIsLast() {
        faults("fix 1 a|", "fix 1 a; |", "line 1 p0 stem; |", "man 1 p0; |", "fix 1 a; fix 1 b|", "|");
        fine("rest a", "fix 1 a; rest a");
    }

    private static void restIsOne() {
        faults("rest a|; rest a", "rest a|; fix 1 a", "rest a|; fix 1 a; rest a", "fix 1 a; rest a|; rest b", "rest a| ", "rest a|a");
    }

    private static void manIsFirst() {
        fine("man 1 p0; rest a", "man 1 p0; fix 1 a; rest a");
        faults("man 1 p0; |man 1 p0; rest a", "fix 1 a; |man 1 p0; rest a", "line 1 p0 stem; |man 1 p0; rest a");
        faults("fix 1 a; fix 1 a; |man 1 p0; rest a", "man 1 p0; fix 1 a; |man 1 p0; rest a");
    }

    private static void testsBehind() {
        fine("fix 1 a if year=1; rest a", "line 1 p0 stem if year=1; rest a", "line 1 p0 heads if year=1; rest a");
        fine("man 1 p0 if year=1; rest a", "man 1 p0 if year=1; fix 1 a if year=1; line 1 p0 stem if year=1; rest a");
        faults("rest a| if year=1", "fix 1 a if year=1| if year=1; rest a", "fix 1 a |year=1; rest a", "fix 1 a i|s year=1; rest a");
        faults("fix 1 a if|=1; rest a", "fix 1 a if|year=1; rest a", "fix 1 a if | year=1; rest a", "fix 1 a | if year=1; rest a");
        faults("fix 1 a if |=1; rest a", "fix 1 a if |; rest a", "fix 1 a if|; rest a", "fix 1 |if year=1 a; rest a");
        faults("man 1 p0 |stem; rest a", "line 1 p0 |if year=1 stem; rest a", "line 1 p0 stem |heads; rest a");
    }

    private static void blanks() {
        faults("rest|a", "rest | a", "fix|1 a; rest a", "fix |  1 a; rest a", "fix 1|a; rest a", "fix 1 | a; rest a");
        faults("line|1 p0 stem; rest a", "line | 1 p0 stem; rest a", "line 1|p0 stem; rest a", "line 1 | p0 stem; rest a");
        faults("line 1 p0|stem; rest a", "line 1 p0 | stem; rest a", "line | p0 stem; rest a", "line |p0 stem; rest a");
        faults("man|1 p0; rest a", "man | 1 p0; rest a", "man 1|p0; rest a", "man 1 | p0; rest a", "man | p0; rest a");
        faults("fix |a; rest a", "fix | a; rest a", "man |p0; rest a", "| rest a", "rest|\ta");
    }

    private static void digitsOfNumbers() {
        fine("fix 1 a; rest a", "fix 12 a; rest a", "fix 123 a; rest a", "fix 1234 a; rest a", "fix 0 a; rest a", "fix 0000 a; rest a");
        faults("fix 1234|5 a; rest a", "fix 0000|0 a; rest a", "fix |-1 a; rest a", "fix |a a; rest a", "fix |/ a; rest a", "fix |: a; rest a");
        faults("fix 1|/ a; rest a", "fix 1|: a; rest a", "fix 123|x a; rest a");
        fine("line 0001 p0 stem; rest a", "line 001 p0 stem; rest a", "line 12 p0 stem; rest a", "line 0 p0 stem; rest a");
        faults("line 0001|1 p0 stem; rest a", "line |x p0 stem; rest a");
        fine("man 0001 p0; rest a", "man 001 p0; rest a", "man 10 p0; rest a", "man 0 p0; rest a");
        faults("man 0001|1 p0; rest a", "man |x p0; rest a");
        fine("fix 1 a if year=1; rest a", "fix 1 a if year=9999; rest a", "fix 1 a if alive<0000; rest a");
        faults("fix 1 a if year=9999|9; rest a", "fix 1 a if year=|; rest a", "fix 1 a if year=|x; rest a", "fix 1 a if year=1|x; rest a");
        // the fourth digit counts
        EndowBook x = Lines.book("read fix 1234 a if year=0; fix 0109 a; fix 9999 b; rest a");
        t.due(x, "end 0 0 1", 1234);
        t.due(x, "end 0 1 1", 109);
        t.due(x, "end 0 2 1", 9999);
    }

    private static void digitsOfPersons() {
        fine("line 1 p0 stem; rest a", "line 1 p00 stem; rest a", "man 1 p0; rest a", "man 1 p00; rest a");
        faults("line 1 p|stem; rest a", "line 1 p| stem; rest a", "line 1 p00|0 stem; rest a", "line 1 |0 stem; rest a", "line 1 |q0 stem; rest a");
        faults("man 1 p|; rest a", "man 1 p00|0; rest a", "man 1 |0; rest a", "man 1 |P0; rest a", "man 1 p|x; rest a", "line 1 p0|a stem; rest a");
        faults("man 1 p|/; rest a", "man 1 p|:; rest a");
        EndowBook x = Lines.book(Lines.times(30, "person NONE 0"));
        Lines.on(x, "read man 1 p9; line 1 p29 stem; line 1 p07 heads; rest a");
        t.due(x, "end 0 0 2", 9);
        t.due(x, "end 0 1 2", 29);
        t.due(x, "end 0 2 2", 7);
    }

    private static void houseLetters() {
        for (char house = 'a'; house <= 'h'; house++) {
            fine("rest " + house, "fix 1 " + house + "; rest a");
        }
        for (char other : new char[] {'a' - 1, 'h' + 1, 'A', 'H', 'z', '0', ' ', 0, 255, 'a' + 128}) {
            faults("rest |" + other, "fix 1 |" + other + "; rest a");
        }
        faults("rest a|b", "fix 1 a|b; rest a");
    }

    private static void hows() {
        EndowBook x = Lines.book("person NONE 0", "read line 1 p0 stem; line 1 p0 heads; rest a");
        t.due(x, "end 0 0 4", 0);
        t.due(x, "end 0 1 4", 1);
        faults("line 1 p0 |tem; rest a", "line 1 p0 s|em; rest a", "line 1 p0 ste|; rest a", "line 1 p0 stem|s; rest a");
        faults("line 1 p0 |eads; rest a", "line 1 p0 h|ads; rest a", "line 1 p0 head|; rest a", "line 1 p0 heads|s; rest a");
        faults("line 1 p0 s|eads; rest a", "line 1 p0 h|tem; rest a", "line 1 p0 |; rest a", "line 1 p0|; rest a", "line 1 p0 |S; rest a");
    }

    private static void signs() {
        fine("fix 1 a if year=1; rest a", "fix 1 a if year<1; rest a", "fix 1 a if year>1; rest a");
        for (char other : new char[] {';', '?', '!', '1', 'a', 0, 255, '<' + 128}) {
            faults("fix 1 a if year|" + other + "1; rest a");
        }
        faults("fix 1 a if year>|=1; rest a", "fix 1 a if year=|=1; rest a", "fix 1 a if year<|>1; rest a", "fix 1 a if year|1; rest a");
    }

    private static void testWithoutBlanks() {
        faults("fix 1 a if year| = 1; rest a", "fix 1 a if year=| 1; rest a", "fix 1 a if year| =1; rest a", "fix 1 a if alive>1| 1; rest a");
        faults("line 1 p0 stem if yield| <1; rest a", "man 1 p0 if alive<| 1; rest a");
    }

    private static void fields() {
        fine("fix 1 a if year=1; rest a", "fix 1 a if yield=1; rest a", "fix 1 a if alive=1; rest a");
        faults("fix 1 a if |xear=1; rest a", "fix 1 a if y|=1; rest a", "fix 1 a if ye|=1; rest a", "fix 1 a if yea|=1; rest a");
        faults("fix 1 a if year|s=1; rest a", "fix 1 a if yi|r=1; rest a", "fix 1 a if yiel|=1; rest a");
        faults("fix 1 a if yield|s=1; rest a", "fix 1 a if ye|eld=1; rest a", "fix 1 a if |ear=1; rest a", "fix 1 a if |ield=1; rest a");
        faults("fix 1 a if a|=1; rest a", "fix 1 a if aliv|=1; rest a", "fix 1 a if alive|e=1; rest a", "fix 1 a if |live=1; rest a");
        faults("fix 1 a if |Year=1; rest a", "fix 1 a if |worth=1; rest a", "fix 1 a if |1=1; rest a");
    }

    private static void manAbove100() {
        fine("man 0 p0; rest a", "man 99 p0; rest a", "man 100 p0; rest a", "man 0100 p0 if year=1; rest a");
        reads("man 101 p0; rest a", NO);
        reads("man 0101 p0; rest a", NO);
        reads("man 9999 p0 if year=1; rest a", NO);
        // of man alone
        fine("fix 101 a; rest a");
        EndowBook x = Lines.book("person NONE 0", "read man 101 p0; rest a");
        t.due(x, "count 3", 0);
        t.due(x, "wipe", 18);
    }

    private static void linesAbove12() {
        fine("line 12 p0 stem; rest a", "line 12 p0 heads; rest a", "line 6 p0 stem; line 6 p0 heads; rest a", "line 0 p0 stem; rest a");
        reads("line 13 p0 stem; rest a", NO);
        reads("line 13 p0 heads if year=1; rest a", NO);
        reads("line 6 p0 stem; line 7 p0 heads; rest a", NO);
        reads("line 12 p0 stem; line 1 p0 stem; rest a", NO);
        reads("line 9999 p0 stem; line 9999 p0 stem; line 9999 p0 stem; line 9999 p0 stem; line 9999 p0 stem; rest a", NO);
        fine("line 2 p0 stem; line 2 p0 stem; line 2 p0 stem; line 2 p0 stem; line 4 p0 stem; rest a");
        reads("line 2 p0 stem; line 2 p0 stem; line 2 p0 stem; line 2 p0 stem; line 5 p0 stem; rest a", NO);
        // of line alone
        fine("man 13 p0; line 12 p0 stem; fix 13 a; rest a");
    }

    private static void personIsNone() {
        EndowBook none = new EndowBook();
        t.refused(none, NO, "read line 1 p0 stem; rest a", "read man 1 p0; rest a", "read man 1 p99; rest a");
        t.due(none, "read fix 1 a; rest a", 0);
        EndowBook x = Lines.book("person NONE 0", "person 0 700");
        t.refused(x, NO, "read line 1 p2 stem; rest a", "read man 1 p2; rest a", "read line 1 p02 heads; rest a", "read line 1 p99 stem; rest a");
        t.refused(x, NO, "read man 1 p1; line 1 p2 stem; rest a", "read line 1 p0 stem; line 1 p3 stem if year=1; rest a");
        t.due(x, "read man 1 p1; line 1 p1 stem; rest a", 0);
        Lines.on(x, "type line 1 p2 stem; rest a");
        t.due(x, "deed", NO);
        t.due(x, "count 4", 22);
        Lines.on(x, "person NONE 0");
        t.due(x, "deed", 1);
        t.due(x, "count 4", 0);
        EndowBook full = Lines.book(Lines.times(30, "person NONE 0"));
        t.refused(full, NO, "read line 1 p30 stem; rest a", "read man 1 p30; rest a");
        t.due(full, "read man 1 p29; line 1 p29 stem; rest a", 0);
    }

    private static void sixDeeds() {
        EndowBook x = new EndowBook();
        for (int d = 0; d < 6; d++) {
            t.due(x, "yields " + d, BEYOND);
            t.due(x, "read rest " + (char) ('a' + d), d);
            t.due(x, "count 3", d + 1);
        }
        t.due(x, "read rest g", FULL);
        t.due(x, "count 3", 6);
        t.due(x, "count 4", 6);
        t.due(x, "deed", FULL);
        t.due(x, "read x", FULL);
        t.due(x, "read man 101 p9; rest a", FULL);
        Lines.on(x, "wipe");
        t.due(x, "deed", FULL);
        t.due(x, "end 5 0 3", 5);
        t.due(x, "end 6 0 3", BEYOND);
    }

    private static void noDeeds() {
        EndowBook x = Lines.book("person NONE 0", "thing 1 1");
        t.due(x, "count 3", 0);
        t.refused(x, BEYOND, "end 0 NONE 0", "end 0 0 0", "yields 0", "manager 0", "left 0", "gets 0 0", "due 0 0", "bound 0 0 true");
        t.refused(x, BEYOND, "lay 0", "part 0 0 1", "parts 0 0");
        t.due(x, "share 0 0 0 true", 0);
        t.due(x, "status -3", 12);
        t.due(x, "run 100", 100);
        t.due(x, "account 0 true", 0);
    }

    private static EndowBook allKinds() {
        return Lines.book("person NONE 0", "person 0 0",
            "read man 100 p1 if year=0; line 5 p0 stem; line 7 p1 heads if year>0; fix 9999 h; rest c", "read rest b");
    }

    private static void howManyEnds() {
        EndowBook x = allKinds();
        for (String what : new String[] {"0", "5", "6", "-1", "MIN", "MAX"}) {
            t.due(x, "end 0 NONE " + what, 5);
            t.due(x, "end 1 NONE " + what, 1);
            t.due(x, "end 2 NONE " + what, BEYOND);
            t.due(x, "end NONE NONE " + what, BEYOND);
        }
    }

    private static void endNumbers() {
        EndowBook x = allKinds();
        t.due(x, "end 0 4 0", 3);
        t.due(x, "end 1 0 0", 3);
        t.refused(x, BEYOND, "end 0 5 0", "end 1 1 0", "end 0 -2 0", "end 0 MIN 0", "end 0 MAX 0", "end 2 0 0", "end -1 0 0", "end MIN 0 0",
            "end MAX 0 0");
        Lines.on(x, "read " + fixes(5) + "rest a");
        t.due(x, "end 2 5 0", 3);
        t.due(x, "end 2 6 0", BEYOND);
    }

    private static void kinds() {
        whatDue(0, 2, 1, 1, 0, 3);
    }

    private static void endNumber() {
        whatDue(1, 100, 5, 7, 9999, KIND);
    }

    private static void endPerson() {
        whatDue(2, 1, 0, 1, KIND, KIND);
    }

    private static void endHouse() {
        whatDue(3, KIND, KIND, KIND, 7, 2);
    }

    private static void endHow() {
        whatDue(4, KIND, 0, 1, KIND, KIND);
    }

    private static void endTest() {
        whatDue(5, 1, 1, 0, 1, 1);
        EndowBook x = allKinds();
        Lines.on(x, "run 1");
        t.due(x, "end 0 0 5", 0);
        t.due(x, "end 0 1 5", 1);
        t.due(x, "end 0 2 5", 1);
    }

    private static void whatDue(int what, int... want) {
        EndowBook x = allKinds();
        for (int i = 0; i < want.length; i++) {
            t.due(x, "end 0 " + i + " " + what, want[i]);
        }
    }

    private static void endWhat() {
        EndowBook x = allKinds();
        for (int i = 0; i < 5; i++) {
            t.refused(x, NO, "end 0 " + i + " -1", "end 0 " + i + " 6", "end 0 " + i + " MIN", "end 0 " + i + " MAX");
        }
    }

    private static void eightHouses() {
        for (int house = 0; house < 8; house++) {
            EndowBook x = Lines.book("thing 1 7", "read fix 5 " + (char) ('a' + house) + "; rest " + (char) ('h' - house), "part 0 0 12", "run 1");
            t.due(x, "end 0 0 3", house);
            t.due(x, "end 0 1 3", 7 - house);
            t.due(x, "account " + house + " true", 5);
            t.due(x, "account " + (7 - house) + " true", 2);
        }
        EndowBook x = new EndowBook();
        t.due(x, "account 8 true", 0);
        t.due(x, "account -1 true", 0);
        t.due(x, "status -3", 2);
        t.due(x, "account 7 true", 0);
        t.due(x, "status -3", 2);
    }
}
