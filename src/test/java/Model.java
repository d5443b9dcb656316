import java.util.ArrayDeque;
import java.util.ArrayList;
import java.util.Arrays;
import java.util.List;
import java.util.TreeMap;
import java.util.function.IntBinaryOperator;

/**
 * The document once more, read as plainly as can be and with no thought of room or time:
 * whole copies for undo() and images, every set, every row and every sale tried out.
 */
final class Model {
    static final int NONE = -1;

    static final class Broken extends Exception {
        private static final long serialVersionUID = 1L;
    }

    static final class Fault extends Exception {
        private static final long serialVersionUID = 1L;
        final int place;

        Fault(int place) {
            this.place = place;
        }
    }

    interface Expression {
        long ask(TreeMap<String, Long> words) throws Broken;
    }

    static final class Clause {
        String verb;
        Expression one;
        Expression other;
        Expression test;
        int times = 1;
    }

    static final class Hour {
        int fact = NONE;
        int with = 0;
        int worth = 1;
        int state = 0;
        int loan = NONE;
        int day = NONE;

        Hour copy() {
            Hour h = new Hour();
            h.fact = fact;
            h.with = with;
            h.worth = worth;
            h.state = state;
            h.loan = loan;
            h.day = day;
            return h;
        }
    }

    static final class Person {
        int purse = 0;
        Hour[] hours = new Hour[12];
        int[] bids = new int[4];

        Person() {
            for (int i = 0; i < 12; i++) {
                hours[i] = new Hour();
            }
        }

        Person copy() {
            Person p = new Person();
            p.purse = purse;
            for (int i = 0; i < 12; i++) {
                p.hours[i] = hours[i].copy();
            }
            p.bids = bids.clone();
            return p;
        }
    }

    static final class State {
        List<Person> people = new ArrayList<>();
        int[] needs = {-1, -1, -1, -1, -1, -1, -1, -1};
        int[] terms = {0, 5, 9, 3, 0};
        List<List<Clause>> laws = new ArrayList<>();
        int force = NONE;

        State copy() {
            State s = new State();
            for (Person p : people) {
                s.people.add(p.copy());
            }
            s.needs = needs.clone();
            s.terms = terms.clone();
            s.laws.addAll(laws);
            s.force = force;
            return s;
        }
    }

    /** What stood ahead of a deed, and which deed. */
    record Deed(int kind, State before) {
    }

    State now = new State();
    ArrayDeque<Deed> deeds = new ArrayDeque<>();
    State[] images = new State[2];
    List<Integer> tape = new ArrayList<>();
    int rain = 0;
    int fault = NONE;
    int stopped = NONE;
    int status = 0;
    TreeMap<Integer, Integer> refusals = new TreeMap<>();
    State years = null;

    private int no(int why) {
        refusals.merge(why, 1, Integer::sum);
        status = why;
        return why;
    }

    private int yes(int answer) {
        status = 0;
        return answer;
    }

    private boolean there(int person) {
        return person >= 0 && person < now.people.size();
    }

    private static boolean in(int value, int least, int most) {
        return value >= least && value <= most;
    }

    private Hour at(int person, int hour) {
        return now.people.get(person).hours[hour];
    }

    int person() {
        if (now.people.size() == 6) {
            return no(-5);
        }
        deeds.clear();
        now.people.add(new Person());
        return yes(now.people.size() - 1);
    }

    private boolean tellable(int person, int what, int value) {
        if (what == 0) {
            return in(value, -1, 7);
        }
        if (what == 1) {
            for (int bit = 0; bit < 32; bit++) {
                if ((value >>> bit & 1) == 1 && (bit == person || !there(bit))) {
                    return false;
                }
            }
            return true;
        }
        return what == 2 && in(value, 0, 99);
    }

    int put(int person, int hour, int what, int value) {
        if (!in(hour, 0, 11) || !in(what, 0, 2) || !tellable(person, what, value)) {
            return no(-1);
        }
        if (!there(person)) {
            return no(-2);
        }
        deeds.clear();
        Hour h = at(person, hour);
        int was;
        if (what == 0) {
            was = h.fact;
            h.fact = value;
        } else if (what == 1) {
            was = h.with;
            h.with = value;
        } else {
            was = h.worth;
            h.worth = value;
        }
        return yes(was);
    }

    int hour(int person, int hour, int what) {
        if (!there(person) || !in(hour, 0, 11)) {
            return NONE;
        }
        Hour h = at(person, hour);
        boolean pawned = h.state == 1;
        return switch (what) {
            case 0 -> h.fact;
            case 1 -> h.with;
            case 2 -> h.worth;
            case 3 -> h.state;
            case 4 -> pawned ? h.loan : NONE;
            case 5 -> pawned ? now.terms[0] - h.day : NONE;
            case 6 -> lends(now, person, hour);
            case 7 -> pawned ? costs(now, person, hour, now.terms[0]) : NONE;
            case 8 -> bars(now, person, hour) ? 1 : 0;
            default -> NONE;
        };
    }

    int give(int person, int value) {
        if (!in(value, 0, 99999)) {
            return no(-1);
        }
        if (!there(person)) {
            return no(-2);
        }
        deeds.clear();
        int was = now.people.get(person).purse;
        now.people.get(person).purse = value;
        return yes(was);
    }

    private static int held(State s, int person, int state) {
        int n = 0;
        for (Hour h : s.people.get(person).hours) {
            n += h.state == state ? 1 : 0;
        }
        return n;
    }

    /** Facts by the hours in which they were learned. */
    private static TreeMap<Integer, Integer> knows(State s, int person, int without) {
        TreeMap<Integer, Integer> known = new TreeMap<>();
        for (int i = 0; i < 12; i++) {
            Hour h = s.people.get(person).hours[i];
            if (h.state != 0 || h.fact == NONE || (without >> i & 1) == 1) {
                continue;
            }
            if (s.needs[h.fact] == NONE || known.containsKey(s.needs[h.fact])) {
                known.putIfAbsent(h.fact, i);
            }
        }
        return known;
    }

    private static int bits(Iterable<Integer> set) {
        int b = 0;
        for (int i : set) {
            b |= 1 << i;
        }
        return b;
    }

    int of(int person, int what) {
        if (!there(person)) {
            return NONE;
        }
        return switch (what) {
            case 0 -> now.people.get(person).purse;
            case 1, 2, 3 -> held(now, person, what - 1);
            case 4 -> bits(knows(now, person, 0).keySet());
            default -> NONE;
        };
    }

    int needs(int fact, int value) {
        if (!in(fact, 0, 7) || !in(value, -1, 7) || fact == value) {
            return no(-1);
        }
        int was = now.needs[fact];
        now.needs[fact] = value;
        return yes(was);
    }

    int terms(int what, int value) {
        boolean can = switch (what) {
            case 0 -> in(value, 0, 999);
            case 1 -> in(value, 0, 99);
            case 2 -> in(value, 1, 99);
            case 3 -> in(value, 0, 10);
            case 4 -> in(value, 0, 9);
            default -> false;
        };
        if (!can) {
            return no(-1);
        }
        if (what == 0) {
            for (Person p : now.people) {
                for (Hour h : p.hours) {
                    if (h.state == 1 && h.day > value) {
                        return no(-3);
                    }
                }
            }
        }
        deeds.clear();
        int was = now.terms[what];
        now.terms[what] = value;
        return yes(was);
    }

    int feed(int... five) {
        if (tape.size() + 20 > 400) {
            return NONE;
        }
        for (int x : five) {
            tape.add(x >>> 24);
            tape.add(x >>> 16 & 255);
            tape.add(x >>> 8 & 255);
            tape.add(x & 255);
        }
        return tape.size();
    }

    int end(int n) {
        if (!in(n, 0, tape.size())) {
            return NONE;
        }
        tape = new ArrayList<>(tape.subList(0, n));
        return n;
    }

    int row(int person) {
        if (!there(person)) {
            return no(-2);
        }
        if (tape.isEmpty()) {
            return no(-6);
        }
        deeds.clear();
        int told = 0;
        rain = 0;
        for (int i = 0; i < tape.size(); i += 3) {
            boolean can = i + 2 < tape.size() && i / 3 < 12
                    && tellable(person, 0, tape.get(i) - 1)
                    && tellable(person, 1, tape.get(i + 1))
                    && tellable(person, 2, tape.get(i + 2));
            if (can) {
                Hour h = at(person, i / 3);
                h.fact = tape.get(i) - 1;
                h.with = tape.get(i + 1);
                h.worth = tape.get(i + 2);
                told++;
            } else {
                rain++;
            }
        }
        tape.clear();
        return yes(told);
    }

    int law() {
        List<Integer> text = tape;
        tape = new ArrayList<>();
        if (now.laws.size() == 6) {
            return no(-5);
        }
        try {
            fault = NONE;
            now.laws.add(new Parser(text, false).whole());
            return yes(now.laws.size() - 1);
        } catch (Fault f) {
            fault = f.place;
            return no(-6);
        }
    }

    int orders() {
        List<Integer> text = tape;
        tape = new ArrayList<>();
        stopped = NONE;
        fault = NONE;
        List<Clause> clauses;
        try {
            clauses = new Parser(text, true).whole();
        } catch (Fault f) {
            fault = f.place;
            return no(-6);
        }
        State before = now.copy();
        ArrayDeque<Deed> deedsBefore = new ArrayDeque<>(deeds);
        int done = 0;
        int last = NONE;
        for (int c = 0; c < clauses.size(); c++) {
            Clause clause = clauses.get(c);
            for (int t = 0; t < clause.times; t++) {
                TreeMap<String, Long> words = ordersWords(done, last);
                if (!isSo(clause.test, words)) {
                    continue;
                }
                int moved = deed(clause, words);
                if (moved < 0) {
                    now = before;
                    deeds = deedsBefore;
                    stopped = c;
                    return no(-3);
                }
                if (!clause.verb.equals("pass")) {
                    last = moved;
                }
                done++;
            }
        }
        return yes(done);
    }

    private int deed(Clause clause, TreeMap<String, Long> words) {
        if (clause.verb.equals("pass")) {
            return doPass();
        }
        try {
            int hour = (int) clause.one.ask(words);
            int person = (int) clause.other.ask(words);
            if (!in(hour, 0, 11) || !there(person)) {
                return -1;
            }
            return clause.verb.equals("pawn") ? doPawn(person, hour) : doRedeem(person, hour);
        } catch (Broken b) {
            return -3;
        }
    }

    private TreeMap<String, Long> ordersWords(int done, int last) {
        TreeMap<String, Long> words = new TreeMap<>();
        words.put("now", (long) now.terms[0]);
        words.put("done", (long) done);
        words.put("last", (long) last);
        for (int p = 0; p < 6; p++) {
            boolean is = there(p);
            words.put("purse " + p, is ? (long) now.people.get(p).purse : -1L);
            words.put("held " + p, is ? (long) held(now, p, 0) : -1L);
            for (int f = 0; f < 8; f++) {
                words.put("knows " + p + " " + f, !is ? -1L : knows(now, p, 0).containsKey(f) ? 1L : 0L);
            }
        }
        return words;
    }

    private static boolean isSo(Expression test, TreeMap<String, Long> words) {
        try {
            return test == null || test.ask(words) != 0;
        } catch (Broken b) {
            return false;
        }
    }

    private static TreeMap<String, Long> lawWords(State s, int person, int hour, int loan, int days, int today) {
        Hour h = s.people.get(person).hours[hour];
        TreeMap<String, Long> words = new TreeMap<>();
        words.put("person", (long) person);
        words.put("hour", (long) hour);
        words.put("fact", (long) h.fact);
        words.put("with", (long) Integer.bitCount(h.with));
        words.put("worth", (long) h.worth);
        words.put("loan", (long) loan);
        words.put("days", (long) days);
        words.put("today", (long) today);
        words.put("mood", (long) s.terms[4]);
        return words;
    }

    /** What the last clause that holds tells, null if none does. */
    private static Long told(State s, String verb, TreeMap<String, Long> words) {
        Long told = null;
        if (s.force == NONE) {
            return null;
        }
        for (Clause c : s.laws.get(s.force)) {
            if (c.verb.equals(verb) && isSo(c.test, words)) {
                try {
                    told = c.one == null ? Long.valueOf(1) : Long.valueOf(c.one.ask(words));
                } catch (Broken b) {
                    continue;
                }
            }
        }
        return told;
    }

    private static int lends(State s, int person, int hour) {
        Long told = told(s, "lends", lawWords(s, person, hour, -1, -1, s.terms[0]));
        return told == null ? s.people.get(person).hours[hour].worth : (int) Math.max(0, Math.min(999, told));
    }

    private static boolean bars(State s, int person, int hour) {
        return told(s, "bars", lawWords(s, person, hour, -1, -1, s.terms[0])) != null;
    }

    private static int costs(State s, int person, int hour, int today) {
        Hour h = s.people.get(person).hours[hour];
        Long told = told(s, "costs", lawWords(s, person, hour, h.loan, today - h.day, today));
        return told == null ? h.loan + today - h.day : (int) Math.max(0, Math.min(9999, told));
    }

    int fault() {
        return fault;
    }

    int rain() {
        return rain;
    }

    int stopped() {
        return stopped;
    }

    int status() {
        return status;
    }

    int force(int law) {
        if (law != NONE && !in(law, 0, now.laws.size() - 1)) {
            return no(-2);
        }
        int was = now.force;
        now.force = law;
        return yes(was);
    }

    private void remember(int kind) {
        deeds.addLast(new Deed(kind, now.copy()));
        if (deeds.size() > 16) {
            deeds.removeFirst();
        }
    }

    private int doPawn(int person, int hour) {
        Hour h = at(person, hour);
        if (h.state != 0 || bars(now, person, hour)) {
            return -3;
        }
        remember(0);
        h.loan = lends(now, person, hour);
        h.day = now.terms[0];
        h.state = 1;
        Person p = now.people.get(person);
        p.purse = Math.min(99999, p.purse + h.loan);
        return h.loan;
    }

    private int doRedeem(int person, int hour) {
        Hour h = at(person, hour);
        Person p = now.people.get(person);
        if (h.state != 1 || p.purse < costs(now, person, hour, now.terms[0])) {
            return -3;
        }
        remember(1);
        int cost = costs(now, person, hour, now.terms[0]);
        p.purse -= cost;
        h.state = 0;
        return cost;
    }

    private int doPass() {
        if (now.terms[0] == 999) {
            return -3;
        }
        remember(2);
        now.terms[0]++;
        for (Person p : now.people) {
            p.purse = Math.min(99999, p.purse + now.terms[1]);
        }
        return now.terms[0];
    }

    private int placed(int person, int hour, IntBinaryOperator deed) {
        if (!in(hour, 0, 11)) {
            return no(-1);
        }
        if (!there(person)) {
            return no(-2);
        }
        int answer = deed.applyAsInt(person, hour);
        return answer == -3 ? no(-3) : yes(answer);
    }

    int pawn(int person, int hour) {
        return placed(person, hour, this::doPawn);
    }

    int redeem(int person, int hour) {
        return placed(person, hour, this::doRedeem);
    }

    int pass() {
        int day = doPass();
        return day == -3 ? no(-3) : yes(day);
    }

    int auction(int person, int hour) {
        return placed(person, hour, (p, h) -> {
            Hour x = at(p, h);
            if (x.state != 1 || now.terms[0] - x.day < now.terms[2]) {
                return -3;
            }
            remember(3);
            x.state = 2;
            return x.loan;
        });
    }

    int undo() {
        if (deeds.isEmpty()) {
            return no(-3);
        }
        Deed deed = deeds.removeLast();
        // needs(), bid(), law(), force() since then are no deeds, and stay.
        State then = deed.before().copy();
        then.needs = now.needs;
        then.laws = now.laws;
        then.force = now.force;
        for (int p = 0; p < now.people.size(); p++) {
            then.people.get(p).bids = now.people.get(p).bids;
        }
        now = then;
        return yes(deed.kind());
    }

    private boolean together(int a, int b, int hour) {
        Hour x = at(a, hour);
        Hour y = at(b, hour);
        return x.state == 0 && y.state == 0 && (x.with >> b & 1) == 1 && (y.with >> a & 1) == 1;
    }

    private boolean knowsThat(int a, int b, int fact) {
        Integer mine = knows(now, a, 0).get(fact);
        Integer theirs = knows(now, b, 0).get(fact);
        return mine != null && theirs != null && (a == b || together(a, b, theirs));
    }

    private boolean knowsThatKnows(int a, int b, int c, int fact) {
        Integer hour = knows(now, c, 0).get(fact);
        return hour != null && knows(now, a, 0).containsKey(fact) && knows(now, b, 0).containsKey(fact)
                && (a == c || together(a, c, hour)) && (b == c || together(b, c, hour))
                && (a == b || together(a, b, hour));
    }

    int met(int one, int other, int what) {
        if (!there(one) || !there(other) || !in(what, 0, 8) || what == 0 && one == other) {
            return NONE;
        }
        if (what > 0) {
            return knowsThat(one, other, what - 1) ? 1 : 0;
        }
        int b = 0;
        for (int h = 0; h < 12; h++) {
            b |= together(one, other, h) ? 1 << h : 0;
        }
        return b;
    }

    int learned(int person, int fact) {
        if (!there(person) || !in(fact, 0, 7)) {
            return NONE;
        }
        return knows(now, person, 0).getOrDefault(fact, NONE);
    }

    int deep(int n) {
        int size = now.people.size();
        if (!in(n, 1, 3) || size == 0) {
            return NONE;
        }
        int b = 0;
        for (int f = 0; f < 8; f++) {
            boolean is = true;
            for (int x = 0; x < size; x++) {
                is &= knows(now, x, 0).containsKey(f);
                for (int y = 0; y < size && n > 1; y++) {
                    is &= knowsThat(x, y, f);
                    for (int z = 0; z < size && n > 2; z++) {
                        is &= knowsThatKnows(x, y, z, f);
                    }
                }
            }
            b |= is ? 1 << f : 0;
        }
        return b;
    }

    private List<int[]> allLies() {
        List<int[]> lies = new ArrayList<>();
        int size = now.people.size();
        for (int h = 0; h < 12; h++) {
            for (int a = 0; a < size; a++) {
                for (int b = 0; b < size; b++) {
                    Hour x = at(a, h);
                    Hour y = at(b, h);
                    if (a != b && x.state == 0 && y.state == 0 && (x.with >> b & 1) == 1 && (y.with >> a & 1) == 0) {
                        lies.add(new int[] {h, a, b});
                    }
                }
            }
        }
        return lies;
    }

    int lies(int i) {
        List<int[]> lies = allLies();
        if (i == NONE) {
            return lies.size();
        }
        if (!in(i, 0, lies.size() - 1)) {
            return NONE;
        }
        int[] lie = lies.get(i);
        return lie[0] * 36 + lie[1] * 6 + lie[2];
    }

    int forged(int hour) {
        if (!in(hour, -1, 11)) {
            return NONE;
        }
        if (hour == NONE) {
            int all = 0;
            for (int h = 0; h < 12; h++) {
                all += Integer.bitCount(forged(h));
            }
            return all;
        }
        for (int n = 0; n <= 6; n++) {
            for (int set = 0; set < 64; set++) {
                boolean ok = Integer.bitCount(set) == n;
                for (int[] lie : allLies()) {
                    ok &= lie[0] != hour || (set >> lie[1] & 1) == 1 || (set >> lie[2] & 1) == 1;
                }
                if (ok) {
                    return set;
                }
            }
        }
        throw new IllegalStateException();
    }

    int stray(int hour, int with) {
        int size = now.people.size();
        if (!in(hour, 0, 11) || !in(with, 0, (1 << size) - 1)) {
            return NONE;
        }
        int b = 0;
        for (int p = 0; p < size; p++) {
            boolean can = at(p, hour).state != 0 && (with >> p & 1) == 0;
            for (int q = 0; q < size; q++) {
                if (at(q, hour).state == 0) {
                    can &= (at(q, hour).with >> p & 1) == (with >> q & 1);
                }
            }
            b |= can ? 1 << p : 0;
        }
        return b;
    }

    int raise(int person, int sum, int facts, int what) {
        if (!there(person) || !in(sum, 0, 9999) || !in(facts, 0, 255) || !in(what, 0, 2)) {
            return NONE;
        }
        int[] best = null;
        int must = bits(knows(now, person, 0).keySet()) & facts;
        int[] lends = new int[12];
        boolean[] can = new boolean[12];
        for (int h = 0; h < 12; h++) {
            lends[h] = lends(now, person, h);
            can[h] = at(person, h).state == 0 && !bars(now, person, h);
        }
        for (int set = 0; set < 4096; set++) {
            int worth = 0;
            int lent = 0;
            boolean ok = true;
            for (int h = 0; h < 12; h++) {
                if ((set >> h & 1) == 1) {
                    ok &= can[h];
                    worth += at(person, h).worth;
                    lent += lends[h];
                }
            }
            if (ok && lent >= sum && (best == null || worth < best[0])
                    && (bits(knows(now, person, set).keySet()) & must) == must) {
                best = new int[] {worth, set, lent};
            }
        }
        return best == null ? NONE : best[what];
    }

    private int leastPaid;
    private List<Integer> leastRow;

    private void tryRows(int person, List<Integer> left, List<Integer> row) {
        if (left.isEmpty()) {
            int day = now.terms[0];
            int purse = now.people.get(person).purse;
            int paid = 0;
            for (int h : row) {
                while (purse < costs(now, person, h, day)) {
                    day++;
                    purse += now.terms[1];
                    if (day > now.terms[0] + 60) {
                        return;
                    }
                }
                int cost = costs(now, person, h, day);
                purse -= cost;
                paid += cost;
            }
            if (leastRow == null || paid < leastPaid) {
                leastRow = new ArrayList<>(row);
                leastPaid = paid;
            }
            return;
        }
        for (Integer h : left) {
            List<Integer> rest = new ArrayList<>(left);
            rest.remove(h);
            List<Integer> more = new ArrayList<>(row);
            more.add(h);
            tryRows(person, rest, more);
        }
    }

    int cheapest(int person, int i) {
        if (!there(person) || i < -1) {
            return NONE;
        }
        List<Integer> pawned = new ArrayList<>();
        for (int h = 0; h < 12; h++) {
            if (at(person, h).state == 1) {
                pawned.add(h);
            }
        }
        leastRow = null;
        if (pawned.size() <= 6) {
            tryRows(person, pawned, new ArrayList<>());
        }
        if (leastRow == null) {
            return NONE;
        }
        return i == NONE ? leastPaid : i < leastRow.size() ? leastRow.get(i) : NONE;
    }

    int bid(int person, int lot, int value) {
        if (!in(lot, 0, 3) || !in(value, 0, 999)) {
            return no(-1);
        }
        if (!there(person)) {
            return no(-2);
        }
        int was = now.people.get(person).bids[lot];
        now.people.get(person).bids[lot] = value;
        return yes(was);
    }

    /** The best row of buyers without one person; 100 stands for nobody, who comes last. */
    private int[] bestSale(int without) {
        int size = now.people.size();
        int[] best = null;
        int bestSum = -1;
        int ways = (size + 1) * (size + 1) * (size + 1) * (size + 1);
        for (int way = 0; way < ways; way++) {
            int[] row = new int[4];
            int rest = way;
            for (int lot = 3; lot >= 0; lot--) {
                row[lot] = rest % (size + 1) == size ? 100 : rest % (size + 1);
                rest /= size + 1;
            }
            int sum = 0;
            boolean ok = true;
            for (int lot = 0; lot < 4; lot++) {
                int buyer = row[lot];
                if (buyer == 100) {
                    continue;
                }
                ok &= buyer != without && now.people.get(buyer).bids[lot] > 0;
                sum += now.people.get(buyer).bids[lot];
                for (int other = 0; other < lot; other++) {
                    ok &= row[other] != buyer;
                }
            }
            if (ok && sum > bestSum) {
                bestSum = sum;
                best = new int[] {sum, row[0], row[1], row[2], row[3]};
            }
        }
        return best;
    }

    int sale(int what) {
        if (!in(what, 0, 8)) {
            return NONE;
        }
        int[] sale = bestSale(NONE);
        if (what <= 4) {
            return sale[what];
        }
        int buyer = sale[what - 4];
        if (buyer == 100) {
            return 0;
        }
        return bestSale(buyer)[0] - (sale[0] - now.people.get(buyer).bids[what - 5]);
    }

    long lasting(int person, int sum, int n) {
        if (!there(person) || !in(sum, 0, 9999) || !in(n, 0, 40)) {
            return NONE;
        }
        TreeMap<Integer, Long> parts = new TreeMap<>();
        parts.put(0, 1_000_000_000_000L);
        for (int day = 1; day <= n; day++) {
            TreeMap<Integer, Long> next = new TreeMap<>();
            for (int k : parts.keySet()) {
                long purse = now.people.get(person).purse + (long) day * now.terms[1] - (long) k * sum;
                next.merge(k, parts.get(k) * (10 - now.terms[3]) / 10, Long::sum);
                if (purse >= sum) {
                    next.merge(k + 1, parts.get(k) * now.terms[3] / 10, Long::sum);
                }
            }
            parts = next;
        }
        long all = 0;
        for (long p : parts.values()) {
            all += p;
        }
        return all;
    }

    int years(int seed, int n) {
        if (!in(seed, 0, 1000000) || !in(n, 1, 60)) {
            return no(-1);
        }
        if (now.people.isEmpty()) {
            return no(-3);
        }
        State real = now;
        ArrayDeque<Deed> realDeeds = deeds;
        now = real.copy();
        deeds = new ArrayDeque<>();
        int pawned = 0;
        long s = seed;
        for (int d = 0; d < n; d++) {
            s = (s * 1103 + 12345) % 1000003;
            int p = (int) (s % now.people.size());
            s = (s * 1103 + 12345) % 1000003;
            int h = (int) (s % 12);
            if (at(p, h).state == 0) {
                pawned += doPawn(p, h) >= 0 ? 1 : 0;
            } else if (at(p, h).state == 1) {
                doRedeem(p, h);
            }
            if (doPass() < 0) {
                break;
            }
        }
        years = now;
        years.needs = years.needs.clone();
        now = real;
        deeds = realDeeds;
        return yes(pawned);
    }

    int drawn(int person, int what) {
        if (years == null || !in(person, 0, years.people.size() - 1)) {
            return NONE;
        }
        if (what == 0) {
            return years.people.get(person).purse;
        }
        if (what == 1) {
            return bits(knows(years, person, 0).keySet());
        }
        int b = 0;
        for (int h = 0; h < 12; h++) {
            b |= years.people.get(person).hours[h].state == 0 ? 1 << h : 0;
        }
        return what == 2 ? b : NONE;
    }

    int image(int k) {
        if (!in(k, 0, 1)) {
            return no(-1);
        }
        images[k] = now.copy();
        return yes(0);
    }

    int back(int k) {
        if (!in(k, 0, 1)) {
            return no(-1);
        }
        if (images[k] == null) {
            return no(-2);
        }
        now = images[k].copy();
        deeds.clear();
        return yes(0);
    }

    int count(int what) {
        int pawned = 0;
        int lost = 0;
        for (int p = 0; p < now.people.size(); p++) {
            pawned += held(now, p, 1);
            lost += held(now, p, 2);
        }
        return switch (what) {
            case 0 -> now.people.size();
            case 1 -> pawned;
            case 2 -> lost;
            case 3 -> now.laws.size();
            case 4 -> deeds.size();
            case 5 -> tape.size();
            case 6 -> refusals.getOrDefault(-1, 0);
            case 7 -> refusals.getOrDefault(-2, 0);
            case 8 -> refusals.getOrDefault(-3, 0);
            case 9 -> refusals.getOrDefault(-5, 0);
            case 10 -> refusals.getOrDefault(-6, 0);
            case 11 -> now.force;
            default -> in(what, 12, 16) ? now.terms[what - 12] : NONE;
        };
    }

    /** Reads a text into trees of questions. */
    static final class Parser {
        private final boolean orders;
        private final int length;
        private final List<String> tokens = new ArrayList<>();
        private final List<Integer> places = new ArrayList<>();
        private int next = 0;
        private int parts = 0;
        private int depth = 0;

        Parser(List<Integer> text, boolean orders) {
            this.orders = orders;
            length = text.size();
            int i = 0;
            while (i < length) {
                int from = i;
                char c = (char) (int) text.get(i++);
                if (c == ' ') {
                    continue;
                }
                StringBuilder token = new StringBuilder().append(c);
                if (kind(c) != 0) {
                    while (i < length && kind((char) (int) text.get(i)) == kind(c)) {
                        token.append((char) (int) text.get(i++));
                    }
                }
                tokens.add(token.toString());
                places.add(from);
            }
        }

        private static int kind(char c) {
            return c >= 'a' && c <= 'z' ? 1 : c >= '0' && c <= '9' ? 2 : 0;
        }

        private String peek() {
            return next < tokens.size() ? tokens.get(next) : "";
        }

        private Fault faulty() {
            return new Fault(next < tokens.size() ? places.get(next) : length);
        }

        private void take(String token) throws Fault {
            if (!peek().equals(token)) {
                throw faulty();
            }
            next++;
        }

        private boolean took(String... any) {
            if (Arrays.asList(any).contains(peek())) {
                next++;
                return true;
            }
            return false;
        }

        private int number(int least, int most) throws Fault {
            if (peek().isEmpty() || kind(peek().charAt(0)) != 2) {
                throw faulty();
            }
            java.math.BigInteger n = new java.math.BigInteger(peek());
            if (n.compareTo(java.math.BigInteger.valueOf(least)) < 0
                    || n.compareTo(java.math.BigInteger.valueOf(most)) > 0) {
                throw faulty();
            }
            next++;
            return n.intValue();
        }

        List<Clause> whole() throws Fault {
            List<Clause> clauses = new ArrayList<>();
            do {
                if (clauses.size() == 12) {
                    throw faulty();
                }
                clauses.add(clause());
            } while (took(";"));
            if (next < tokens.size()) {
                throw faulty();
            }
            return clauses;
        }

        private Clause clause() throws Fault {
            Clause c = new Clause();
            c.verb = peek();
            if (orders) {
                if (took("pawn", "redeem")) {
                    c.one = sum();
                    take("of");
                    c.other = sum();
                } else {
                    take("pass");
                }
                if (took("times")) {
                    c.times = number(1, 20);
                }
            } else if (took("lends", "costs")) {
                c.one = sum();
            } else {
                take("bars");
            }
            if (took("if")) {
                c.test = test();
            }
            return c;
        }

        private Expression test() throws Fault {
            Expression left = both();
            while (took("or")) {
                Expression a = left;
                Expression b = both();
                left = w -> a.ask(w) != 0 ? 1 : b.ask(w);
            }
            return left;
        }

        private Expression both() throws Fault {
            Expression left = plain();
            while (took("and")) {
                Expression a = left;
                Expression b = plain();
                left = w -> a.ask(w) == 0 ? 0 : b.ask(w);
            }
            return left;
        }

        private void deeper() throws Fault {
            if (depth == 8) {
                throw faulty();
            }
            depth++;
            next++;
        }

        private Expression plain() throws Fault {
            if (took("not")) {
                Expression e = plain();
                return w -> 1 - e.ask(w);
            }
            if (peek().equals("(")) {
                deeper();
                Expression e = test();
                take(")");
                depth--;
                return e;
            }
            Expression a = sum();
            String sign = peek();
            if (!took("<", ">", "=")) {
                throw faulty();
            }
            Expression b = sum();
            return w -> {
                int c = Long.compare(a.ask(w), b.ask(w));
                return (sign.equals("<") ? c < 0 : sign.equals(">") ? c > 0 : c == 0) ? 1 : 0;
            };
        }

        private static long near(long n) throws Broken {
            if (n > 1_000_000_000 || n < -1_000_000_000) {
                throw new Broken();
            }
            return n;
        }

        private Expression sum() throws Fault {
            Expression left = term();
            while (true) {
                Expression a = left;
                if (took("+")) {
                    Expression b = term();
                    left = w -> near(a.ask(w) + b.ask(w));
                } else if (took("-")) {
                    Expression b = term();
                    left = w -> near(a.ask(w) - b.ask(w));
                } else {
                    return left;
                }
            }
        }

        private static long divisor(long n) throws Broken {
            if (n == 0) {
                throw new Broken();
            }
            return n;
        }

        private Expression term() throws Fault {
            Expression left = part();
            while (true) {
                Expression a = left;
                if (took("*")) {
                    Expression b = part();
                    left = w -> near(a.ask(w) * b.ask(w));
                } else if (took("/")) {
                    Expression b = part();
                    left = w -> a.ask(w) / divisor(b.ask(w));
                } else if (took("%")) {
                    Expression b = part();
                    left = w -> a.ask(w) % divisor(b.ask(w));
                } else {
                    return left;
                }
            }
        }

        private Expression part() throws Fault {
            if (peek().equals("[")) {
                deeper();
                Expression e = sum();
                take("]");
                depth--;
                return e;
            }
            if (++parts > 50) {
                throw faulty();
            }
            String word = peek();
            if (!word.isEmpty() && kind(word.charAt(0)) == 2) {
                long n = number(0, 1000);
                return w -> n;
            }
            List<String> plain = orders ? List.of("now", "done", "last")
                    : List.of("person", "hour", "fact", "with", "worth", "loan", "days", "today", "mood");
            if (plain.contains(word)) {
                next++;
                return w -> w.get(word);
            }
            if (!orders || !List.of("purse", "held", "knows").contains(word)) {
                throw faulty();
            }
            next++;
            String key = word + " " + number(0, 5);
            if (word.equals("knows")) {
                key += " " + number(0, 7);
            }
            String whole = key;
            return w -> w.get(whole);
        }
    }
}
