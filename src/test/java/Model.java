import java.math.BigInteger;
import java.util.ArrayList;
import java.util.LinkedHashMap;
import java.util.LinkedHashSet;
import java.util.List;
import java.util.Map;
import java.util.Set;
import java.util.regex.Matcher;
import java.util.regex.Pattern;

/** The document written a second time, with objects, recursion, fractions and patterns, to be compared with the class. */
final class Model {
    private static final int NONE = -1;
    private static final int MISSING = -2;
    private static final int BEYOND = -3;
    private static final int BELOW = -4;
    private static final int KIND = -5;
    private static final int COPY = -6;
    private static final int NO = -7;
    private static final int FULL = -8;

    private static final String TEST = "(?: if (?:year|yield|alive)[=<>][0-9]{1,4})?";
    private static final String MAN = "man [0-9]{1,4} p[0-9]{1,2}" + TEST + "; ";
    private static final String OTHER =
        "(?:fix [0-9]{1,4} [a-h]|line [0-9]{1,4} p[0-9]{1,2} (?:stem|heads))" + TEST + "; ";
    private static final Pattern DEED =
        Pattern.compile("(?:" + MAN + "(?:" + OTHER + "){0,4}|(?:" + OTHER + "){0,5})rest [a-h]");
    private static final Pattern ONE_END = Pattern.compile(
        "(man|fix|line|rest) (?:([0-9]+) )?(?:p([0-9]+)|([a-h]))(?: (stem|heads))?(?: if ([a-z]+)([=<>])([0-9]+))?");

    private static final class Person {
        Person parent;
        int born;
        int died = Integer.MAX_VALUE;
        boolean unknown;
        boolean taken;
        final List<Person> children = new ArrayList<>();
        long account;

        void line(Set<Person> into) {
            into.add(this);
            for (Person child : children) {
                child.line(into);
            }
        }
    }

    private static final class Thing {
        int worth;
        int yield;
        boolean ruin;
        int[] given = new int[6];
    }

    private static final class End {
        String kind;
        int number;
        Person person;
        int house = NONE;
        boolean heads;
        String field;
        char sign;
        int than;
        long gets;
        boolean so;
    }

    private record Lease(int thing, int from, int n, boolean holds) {
        boolean meets(int aThing, int year) {
            return holds && thing == aThing && year >= from && year <= from + n - 1;
        }
    }

    private record Fraction(BigInteger upper, BigInteger lower) {
        Fraction parted(int by) {
            return of(upper, lower.multiply(BigInteger.valueOf(by)));
        }

        static Fraction of(BigInteger upper, BigInteger lower) {
            BigInteger common = upper.gcd(lower);
            return new Fraction(upper.divide(common), lower.divide(common));
        }
    }

    private final List<Person> persons = new ArrayList<>();
    private final List<Thing> things = new ArrayList<>();
    private final List<List<End>> deeds = new ArrayList<>();
    private final List<Lease> leases = new ArrayList<>();
    private final long[] houses = new long[8];
    private final int[] refused = new int[9];
    private String tape = "";
    private int[] theRow = null;
    private int now = 0;
    private int longest = 3;

    // as the last reckoning left them
    private Person steward;
    private long leftNow;
    private final Map<Person, Long> getsNow = new LinkedHashMap<>();

    private int no(int by) {
        refused[-by]++;
        return by;
    }

    private static boolean out(List<?> list, int i) {
        return i < 0 || i >= list.size();
    }

    int person(int parent, int born) {
        if (parent != NONE && out(persons, parent)) return no(BEYOND);
        if (born < 0 || born > 700 || parent != NONE && born < persons.get(parent).born) return no(NO);
        if (persons.size() == 30) return no(FULL);
        Person p = new Person();
        p.born = born;
        if (parent != NONE) {
            p.parent = persons.get(parent);
            p.parent.children.add(p);
        }
        persons.add(p);
        return persons.size() - 1;
    }

    int death(int person, int year) {
        if (out(persons, person)) return no(BEYOND);
        Person p = persons.get(person);
        if (year != NONE && !(year >= p.born && year <= 700)) return no(NO);
        int before = p.died == Integer.MAX_VALUE ? NONE : p.died;
        p.died = year == NONE ? Integer.MAX_VALUE : year;
        p.unknown = false;
        return before;
    }

    int unknown(int person, int is) {
        if (out(persons, person)) return no(BEYOND);
        if (is != 0 && is != 1) return no(NO);
        Person p = persons.get(person);
        long others = persons.stream().filter(o -> o != p && o.unknown).count();
        if (is == 1 && others >= 5) return no(FULL);
        boolean before = p.unknown;
        if (is == 1 || before) p.died = Integer.MAX_VALUE;
        if (is == 1) p.taken = false;
        p.unknown = is == 1;
        return before ? 1 : 0;
    }

    int taken(int person, int is) {
        if (out(persons, person)) return no(BEYOND);
        Person p = persons.get(person);
        if (!p.unknown) return no(KIND);
        if (is != 0 && is != 1) return no(NO);
        int before = p.taken ? 1 : 0;
        p.taken = is == 1;
        return before;
    }

    private boolean lives(Person p, Set<Person> ways) {
        if (p.born > now) return false;
        if (p.unknown) return ways == null ? p.taken : ways.contains(p);
        return now < p.died;
    }

    private List<Person> livingLine(Person root, Set<Person> ways) {
        Set<Person> line = new LinkedHashSet<>();
        root.line(line);
        return persons.stream().filter(p -> line.contains(p) && lives(p, ways)).toList();
    }

    int look(int person, int what) {
        if (out(persons, person)) return no(BEYOND);
        Person p = persons.get(person);
        if (what == 0) return persons.indexOf(p.parent);
        if (what == 1) return p.born;
        if (what == 2) return p.died == Integer.MAX_VALUE ? NONE : p.died;
        if (what == 3) return p.unknown ? 1 : 0;
        if (what == 4) return lives(p, null) ? 1 : 0;
        if (what == 5) return p.children.size();
        if (what == 6) return livingLine(p, null).size();
        return no(NO);
    }

    int thing(int worth, int yield) {
        if (worth < 1 || worth > 9999 || yield < 0 || yield > 9999) return no(NO);
        if (things.size() == 10) return no(FULL);
        Thing t = new Thing();
        t.worth = worth;
        t.yield = yield;
        things.add(t);
        return things.size() - 1;
    }

    int tell(int thing, int what, int v) {
        if (out(things, thing)) return no(BEYOND);
        if (what < 0 || what > 1 || v > 9999 || v < 1 - what) return no(NO);
        Thing t = things.get(thing);
        int before = what == 0 ? t.worth : t.yield;
        if (what == 0) t.worth = v; else t.yield = v;
        return before;
    }

    int ruin(int thing, int is) {
        if (out(things, thing)) return no(BEYOND);
        if (is != 0 && is != 1) return no(NO);
        int before = things.get(thing).ruin ? 1 : 0;
        things.get(thing).ruin = is == 1;
        return before;
    }

    private static int free(Thing t) {
        int n = 12;
        for (int g : t.given) n -= g;
        return n;
    }

    int part(int thing, int deed, int n) {
        if (out(things, thing) || out(deeds, deed)) return no(BEYOND);
        if (n < 1 || n > 12) return no(NO);
        Thing t = things.get(thing);
        if (n > free(t)) return no(FULL);
        return t.given[deed] += n;
    }

    int parts(int thing, int deed) {
        if (out(things, thing) || deed != NONE && out(deeds, deed)) return no(BEYOND);
        return deed == NONE ? free(things.get(thing)) : things.get(thing).given[deed];
    }

    int feed(int bytes, int n) {
        if (n < 0) return no(BELOW);
        if (n > 4) return no(NO);
        if (tape.length() + n > 120) return no(FULL);
        String all = "" + (char) (bytes >>> 24) + (char) (bytes >>> 16 & 255)
            + (char) (bytes >>> 8 & 255) + (char) (bytes & 255);
        tape += all.substring(4 - n);
        return tape.length();
    }

    int wipe() {
        int before = tape.length();
        tape = "";
        return before;
    }

    private static boolean mayBegin(String text) {
        Matcher m = DEED.matcher(text);
        return m.matches() || m.hitEnd();
    }

    private static int fault(String text) {
        if (DEED.matcher(text).matches()) return NONE;
        for (int f = 0; f < text.length(); f++) {
            if (!mayBegin(text.substring(0, f + 1))) return f;
        }
        return text.length();
    }

    int deed() {
        if (deeds.size() == 6) return no(FULL);
        int fault = fault(tape);
        if (fault != NONE) return -10 - fault;
        List<End> ends = new ArrayList<>();
        int twelfths = 0;
        for (String text : tape.split("; ")) {
            Matcher m = ONE_END.matcher(text);
            if (!m.matches()) throw new IllegalStateException(text);
            End e = new End();
            e.kind = m.group(1);
            if (m.group(2) != null) e.number = Integer.parseInt(m.group(2));
            if (m.group(3) != null) {
                int p = Integer.parseInt(m.group(3));
                if (out(persons, p)) return no(NO);
                e.person = persons.get(p);
            } else {
                e.house = "abcdefgh".indexOf(m.group(4));
            }
            e.heads = "heads".equals(m.group(5));
            e.field = m.group(6);
            if (e.field != null) {
                e.sign = m.group(7).charAt(0);
                e.than = Integer.parseInt(m.group(8));
            }
            if (e.kind.equals("man") && e.number > 100) return no(NO);
            if (e.kind.equals("line")) twelfths += e.number;
            ends.add(e);
        }
        if (twelfths > 12) return no(NO);
        deeds.add(ends);
        tape = "";
        return deeds.size() - 1;
    }

    private int yieldOf(int deed) {
        int sum = 0;
        for (Thing t : things) {
            int yield = t.ruin ? 0 : t.yield;
            sum += Math.floorDiv(yield * t.given[deed], 12);
        }
        return sum;
    }

    private static boolean holds(End e, int year, int yield, int alive) {
        if (e.field == null) return true;
        Map<String, Integer> fields = Map.of("year", year, "yield", yield, "alive", alive);
        int order = Integer.compare(fields.get(e.field), e.than);
        return order == "<=>".indexOf(e.sign) - 1;
    }

    private Map<Person, Fraction> shares(End e, Set<Person> ways) {
        Map<Person, Fraction> into = new LinkedHashMap<>();
        List<Person> living = livingLine(e.person, ways);
        if (living.isEmpty()) return into;
        Fraction whole = new Fraction(BigInteger.ONE, BigInteger.ONE);
        if (e.heads) {
            for (Person p : living) into.put(p, whole.parted(living.size()));
        } else {
            pass(e.person, whole, ways, into);
        }
        return into;
    }

    private void pass(Person p, Fraction share, Set<Person> ways, Map<Person, Fraction> into) {
        if (lives(p, ways)) {
            into.put(p, share);
            return;
        }
        List<Person> heirs = p.children.stream().filter(c -> !livingLine(c, ways).isEmpty()).toList();
        for (Person heir : heirs) pass(heir, share.parted(heirs.size()), ways, into);
    }

    private void reckon(int deed, Set<Person> ways) {
        List<End> ends = deeds.get(deed);
        int yield = yieldOf(deed);
        Set<Person> line = new LinkedHashSet<>();
        for (End e : ends) {
            if (e.kind.equals("line")) line.addAll(livingLine(e.person, ways));
        }
        getsNow.clear();
        steward = null;
        long rest = yield;
        for (End e : ends) {
            e.so = holds(e, now, yield, line.size());
            e.gets = 0;
            if (e.kind.equals("man") && e.so) {
                for (Person p : livingLine(e.person, ways)) {
                    if (steward == null || p.born < steward.born) steward = p;
                }
                if (steward != null) {
                    e.gets = (long) yield * e.number / 100;
                    getsNow.merge(steward, e.gets, Long::sum);
                    rest -= e.gets;
                }
            }
        }
        for (End e : ends) {
            if (e.kind.equals("fix") && e.so) {
                e.gets = e.number > rest ? rest : e.number;
                rest -= e.gets;
            }
        }
        leftNow = rest;
        for (End e : ends) {
            if (e.kind.equals("line") && e.so) {
                for (Map.Entry<Person, Fraction> s : shares(e, ways).entrySet()) {
                    long gets = BigInteger.valueOf(leftNow * e.number).multiply(s.getValue().upper())
                        .divide(s.getValue().lower().multiply(BigInteger.valueOf(12))).longValueExact();
                    getsNow.merge(s.getKey(), gets, Long::sum);
                    e.gets += gets;
                    rest -= gets;
                }
            }
        }
        ends.get(ends.size() - 1).gets = rest;
    }

    int end(int deed, int i, int what) {
        if (out(deeds, deed)) return no(BEYOND);
        List<End> ends = deeds.get(deed);
        if (i == NONE) return ends.size();
        if (out(ends, i)) return no(BEYOND);
        End e = ends.get(i);
        int kind = List.of("fix", "line", "man", "rest").indexOf(e.kind);
        if (what == 0) return kind;
        if (what == 1) return kind == 3 ? no(KIND) : e.number;
        if (what == 2) return e.person == null ? no(KIND) : persons.indexOf(e.person);
        if (what == 3) return e.house == NONE ? no(KIND) : e.house;
        if (what == 4) return kind != 1 ? no(KIND) : e.heads ? 1 : 0;
        if (what != 5) return no(NO);
        reckon(deed, null);
        return e.so ? 1 : 0;
    }

    int yields(int deed) {
        return out(deeds, deed) ? no(BEYOND) : yieldOf(deed);
    }

    int manager(int deed) {
        if (out(deeds, deed)) return no(BEYOND);
        reckon(deed, null);
        return persons.indexOf(steward);
    }

    int left(int deed) {
        if (out(deeds, deed)) return no(BEYOND);
        reckon(deed, null);
        return (int) leftNow;
    }

    int gets(int deed, int i) {
        if (out(deeds, deed) || out(deeds.get(deed), i)) return no(BEYOND);
        reckon(deed, null);
        return (int) deeds.get(deed).get(i).gets;
    }

    int due(int deed, int person) {
        if (out(deeds, deed) || out(persons, person)) return no(BEYOND);
        reckon(deed, null);
        return getsNow.getOrDefault(persons.get(person), 0L).intValue();
    }

    long share(int deed, int i, int person, boolean lower) {
        if (out(deeds, deed) || out(deeds.get(deed), i) || out(persons, person)) return no(BEYOND) * 0L;
        End e = deeds.get(deed).get(i);
        if (!e.kind.equals("line")) return no(KIND) * 0L;
        Fraction f = shares(e, null).getOrDefault(persons.get(person), new Fraction(BigInteger.ZERO, BigInteger.ONE));
        return (lower ? f.lower() : f.upper()).longValueExact();
    }

    int bound(int deed, int person, boolean greatest) {
        if (out(deeds, deed) || out(persons, person)) return no(BEYOND);
        Person p = persons.get(person);
        List<Person> open = persons.stream().filter(o -> o.unknown && o.born <= now).toList();
        List<Long> all = new ArrayList<>();
        tryWays(deed, p, open, new LinkedHashSet<>(), all);
        long best = all.stream().reduce(greatest ? Math::max : Math::min).orElseThrow();
        return (int) best;
    }

    private void tryWays(int deed, Person p, List<Person> open, Set<Person> ways, List<Long> all) {
        if (open.isEmpty()) {
            reckon(deed, ways);
            all.add(getsNow.getOrDefault(p, 0L));
            return;
        }
        List<Person> others = open.subList(1, open.size());
        tryWays(deed, p, others, ways, all);
        Set<Person> more = new LinkedHashSet<>(ways);
        more.add(open.get(0));
        tryWays(deed, p, others, more, all);
    }

    int run(int n) {
        if (n < 0) return no(BELOW);
        if (n == 0 || n > 100) return no(NO);
        if (now + n > 600) return no(FULL);
        for (int k = 0; k < n; k++) {
            for (int deed = 0; deed < deeds.size(); deed++) {
                reckon(deed, null);
                getsNow.forEach((p, gets) -> p.account += gets);
                for (End e : deeds.get(deed)) {
                    if (e.house != NONE) houses[e.house] += e.gets;
                }
            }
            now++;
        }
        return now;
    }

    long account(int who, boolean house) {
        if (house ? who < 0 || who > 7 : out(persons, who)) return no(BEYOND) * 0L;
        return house ? houses[who] : persons.get(who).account;
    }

    int lease(int thing, int from, int n, boolean judged) {
        if (out(things, thing)) return no(BEYOND);
        if (from < now || from > 700 || n < 1 || n > 99) return no(NO);
        if (leases.size() == 30) return no(FULL);
        boolean holds = (n <= longest || judged) && !things.get(thing).ruin;
        for (int year = from; year < from + n; year++) {
            for (Lease l : leases) holds &= !l.meets(thing, year);
        }
        leases.add(new Lease(thing, from, n, holds));
        return leases.size() - 1;
    }

    int leased(int lease, int what) {
        if (out(leases, lease)) return no(BEYOND);
        Lease l = leases.get(lease);
        if (what == 0) return l.thing();
        if (what == 1) return l.from();
        if (what == 2) return l.n();
        if (what == 3) return l.holds() ? 1 : 0;
        return no(NO);
    }

    int law(int n) {
        if (n < 1 || n > 99) return no(NO);
        int before = longest;
        longest = n;
        return before;
    }

    int swap(int thing, int other, boolean judged) {
        if (out(things, thing) || out(things, other)) return no(BEYOND);
        if (thing == other) return no(NO);
        Thing a = things.get(thing);
        Thing b = things.get(other);
        if (!judged || a.worth > b.worth + a.worth / 10 || b.worth > a.worth + b.worth / 10) return 0;
        for (int year = now; year < 800; year++) {
            for (Lease l : leases) {
                if (l.meets(thing, year) || l.meets(other, year)) return 0;
            }
        }
        int[] given = a.given;
        a.given = b.given;
        b.given = given;
        return 1;
    }

    int count(int what) {
        if (what == 0) return now;
        if (what == 1) return persons.size();
        if (what == 2) return things.size();
        if (what == 3) return deeds.size();
        if (what == 4) return tape.length();
        if (what == 5) return (int) persons.stream().filter(p -> lives(p, null)).count();
        if (what == 6) return (int) leases.stream().filter(Lease::holds).count();
        if (what == 7) return (int) persons.stream().filter(p -> p.unknown).count();
        return no(NO);
    }

    int lay(int deed) {
        if (out(deeds, deed)) return no(BEYOND);
        reckon(deed, null);
        theRow = persons.stream().mapToInt(p -> getsNow.getOrDefault(p, 0L).intValue()).toArray();
        return theRow.length;
    }

    int tear() {
        int before = theRow == null ? 0 : 1;
        theRow = null;
        return before;
    }

    int row(int i) {
        if (theRow == null) return no(MISSING);
        return i < 0 || i >= theRow.length ? no(BEYOND) : theRow[i];
    }

    int copy(int i, int j, int n) {
        if (theRow == null) return no(MISSING);
        if (n < 0) return no(BELOW);
        if (i < 0 || j < 0 || (long) i + n > theRow.length || (long) j + n > theRow.length) return no(COPY);
        int[] before = theRow.clone();
        for (int k = 0; k < n; k++) theRow[j + k] = before[i + k];
        return n;
    }

    int status(int by) {
        return by <= -2 && by >= -8 ? refused[-by] : no(NO);
    }
}
