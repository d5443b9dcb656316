import java.util.Arrays;

/** A street in which hours of one's life are pawned; ../shared/DOC.md tells what it promises. */
public final class PawnedHours {
    public static final int NONE = -1;

    private static final int WRONG_NUMBER = -1;
    private static final int NOT_THERE = -2;
    private static final int CANNOT = -3;
    private static final int NO_ROOM = -5;
    private static final int UNREADABLE = -6;

    private static final int PEOPLE = 6;
    private static final int HOURS = 12;
    private static final int FACTS = 8;
    private static final int LOTS = 4;
    private static final int LAWS = 6;
    private static final int IMAGES = 2;
    private static final int TAPE_ROOM = 400;
    private static final int ROW_BYTES = 3;

    private static final int MOST_PURSE = 99_999;
    private static final int MOST_WORTH = 99;
    private static final int MOST_BID = 999;
    private static final int MOST_SUM = 9_999;
    private static final int MOST_SEED = 1_000_000;
    private static final int MOST_YEARS_DAYS = 60;
    private static final int MOST_LASTING_DAYS = 40;
    private static final int LAST_DAY = 999;
    private static final int NO_BUYER = 100;
    private static final long ALL_PARTS = 1_000_000_000_000L;
    /** Above every worth and every price that a plan can come to. */
    private static final int NO_PLAN = 1_000_000;

    private static final int HELD = 0;
    private static final int PAWNED = 1;
    private static final int LOST = 2;

    private static final int DAY = 0;
    private static final int INCOME = 1;
    private static final int PATIENCE = 2;
    private static final int ODDS = 3;
    private static final int MOOD = 4;
    private static final int TERMS = 5;
    private static final int[] LEAST_TERM = {0, 0, 1, 0, 0};
    private static final int[] MOST_TERM = {999, 99, 99, 10, 9};
    private static final int[] FIRST_TERM = {0, 5, 9, 3, 0};

    /** What orders do, and what undo() tells was undone. */
    private static final int TO_PAWN = 0;
    private static final int TO_REDEEM = 1;
    private static final int TO_PASS = 2;
    private static final int TO_AUCTION = 3;

    /** What laws tell. */
    private static final int LENDS = 0;
    private static final int COSTS = 1;
    private static final int BARS = 2;
    private static final int[] MOST_TOLD = {999, 9_999, 1};

    private final Street street;
    private final Street spare;
    private final Street[] images;
    private final boolean[] imageKept;
    private final Log log;
    private final Log spareLog;
    private final Reader reader;
    private final Runner runner;
    private final Company company;
    private final Raising raising;
    private final Redeeming redeeming;
    private final Market market;
    private final Years latestYears;
    private final int[] refusals;
    private final long[] lastingParts;
    private int latestRain;
    private int latestFault;
    private int latestStop;
    private int latestStatus;

    public PawnedHours() {
        Machine machine = new Machine();
        street = new Street(machine);
        spare = new Street(machine);
        images = new Street[IMAGES];
        for (int k = 0; k < IMAGES; k++) {
            images[k] = new Street(machine);
        }
        imageKept = new boolean[IMAGES];
        log = new Log();
        spareLog = new Log();
        reader = new Reader();
        runner = new Runner();
        company = new Company(street);
        raising = new Raising(street);
        redeeming = new Redeeming(street);
        market = new Market(street);
        latestYears = new Years();
        refusals = new int[-UNREADABLE + 1];
        lastingParts = new long[MOST_LASTING_DAYS + 1];
        latestRain = 0;
        latestFault = NONE;
        latestStop = NONE;
        latestStatus = 0;
    }

    public int person() {
        if (street.people >= PEOPLE) {
            return refused(NO_ROOM);
        }
        log.forget();
        street.people++;
        return accepted(street.people - 1);
    }

    public int put(int person, int hour, int what, int value) {
        if (!isHour(hour) || !street.canBeTold(person, what, value)) {
            return refused(WRONG_NUMBER);
        }
        if (!street.isPerson(person)) {
            return refused(NOT_THERE);
        }
        log.forget();
        return accepted(street.tell(placeOf(person, hour), what, value));
    }

    public int hour(int person, int hour, int what) {
        if (!street.isPerson(person) || !isHour(hour)) {
            return NONE;
        }
        int place = placeOf(person, hour);
        switch (what) {
            case 0:
                return street.facts[place];
            case 1:
                return street.withs[place];
            case 2:
                return street.worths[place];
            case 3:
                return street.states[place];
            case 4:
                return street.loans[place];
            case 5:
                return street.states[place] == PAWNED ? street.terms[DAY] - street.days[place] : NONE;
            case 6:
                return street.ruled(LENDS, person, hour, street.terms[DAY]);
            case 7:
                return street.states[place] == PAWNED ? street.ruled(COSTS, person, hour, street.terms[DAY]) : NONE;
            case 8:
                return street.ruled(BARS, person, hour, street.terms[DAY]);
            default:
                return NONE;
        }
    }

    public int give(int person, int value) {
        if (value < 0 || value > MOST_PURSE) {
            return refused(WRONG_NUMBER);
        }
        if (!street.isPerson(person)) {
            return refused(NOT_THERE);
        }
        log.forget();
        int was = street.purses[person];
        street.purses[person] = value;
        return accepted(was);
    }

    public int of(int person, int what) {
        if (!street.isPerson(person)) {
            return NONE;
        }
        switch (what) {
            case 0:
                return street.purses[person];
            case 1:
                return Integer.bitCount(street.hoursThatAre(HELD, person));
            case 2:
                return Integer.bitCount(street.hoursThatAre(PAWNED, person));
            case 3:
                return Integer.bitCount(street.hoursThatAre(LOST, person));
            case 4:
                return street.knownWithout(person, 0);
            default:
                return NONE;
        }
    }

    public int needs(int fact, int value) {
        if (!isFact(fact) || value != NONE && !isFact(value) || value == fact) {
            return refused(WRONG_NUMBER);
        }
        int was = street.needed[fact];
        street.needed[fact] = value;
        return accepted(was);
    }

    public int terms(int what, int value) {
        if (what < 0 || what >= TERMS || value < LEAST_TERM[what] || value > MOST_TERM[what]) {
            return refused(WRONG_NUMBER);
        }
        if (what == DAY && value < street.latestPawnDay()) {
            return refused(CANNOT);
        }
        log.forget();
        int was = street.terms[what];
        street.terms[what] = value;
        return accepted(was);
    }

    public int feed(int a, int b, int c, int d, int e) {
        if (reader.length + 20 > TAPE_ROOM) {
            return NONE;
        }
        reader.addFour(a);
        reader.addFour(b);
        reader.addFour(c);
        reader.addFour(d);
        reader.addFour(e);
        return reader.length;
    }

    public int end(int n) {
        if (n < 0 || n > reader.length) {
            return NONE;
        }
        reader.length = n;
        return n;
    }

    public int row(int person) {
        if (!street.isPerson(person)) {
            return refused(NOT_THERE);
        }
        if (reader.length == 0) {
            return refused(UNREADABLE);
        }
        log.forget();
        int entries = (reader.length + ROW_BYTES - 1) / ROW_BYTES;
        int told = 0;
        for (int i = 0; i < entries; i++) {
            if (tellFromTape(person, i)) {
                told++;
            }
        }
        reader.length = 0;
        latestRain = entries - told;
        return accepted(told);
    }

    public int rain() {
        return latestRain;
    }

    public int law() {
        if (street.lawCount >= LAWS) {
            reader.length = 0;
            return refused(NO_ROOM);
        }
        Program read = reader.read(false);
        reader.length = 0;
        latestFault = reader.fault;
        if (read == null) {
            return refused(UNREADABLE);
        }
        street.laws[street.lawCount] = read;
        street.lawCount++;
        return accepted(street.lawCount - 1);
    }

    public int orders() {
        Program read = reader.read(true);
        reader.length = 0;
        latestFault = reader.fault;
        latestStop = NONE;
        if (read == null) {
            return refused(UNREADABLE);
        }
        spare.copyFrom(street);
        spareLog.copyFrom(log);
        latestStop = runner.run(read, street, log);
        if (latestStop != NONE) {
            street.copyFrom(spare);
            log.copyFrom(spareLog);
            return refused(CANNOT);
        }
        return accepted(runner.done);
    }

    public int fault() {
        return latestFault;
    }

    public int stopped() {
        return latestStop;
    }

    public int force(int law) {
        if (law != NONE && (law < 0 || law >= street.lawCount)) {
            return refused(NOT_THERE);
        }
        int was = street.inForce;
        street.inForce = law;
        return accepted(was);
    }

    public int pawn(int person, int hour) {
        if (!isHour(hour)) {
            return refused(WRONG_NUMBER);
        }
        if (!street.isPerson(person)) {
            return refused(NOT_THERE);
        }
        return acceptedUnlessCannot(street.tryPawn(person, hour, log));
    }

    public int redeem(int person, int hour) {
        if (!isHour(hour)) {
            return refused(WRONG_NUMBER);
        }
        if (!street.isPerson(person)) {
            return refused(NOT_THERE);
        }
        return acceptedUnlessCannot(street.tryRedeem(person, hour, log));
    }

    public int pass() {
        return acceptedUnlessCannot(street.tryNextDay(log));
    }

    public int auction(int person, int hour) {
        if (!isHour(hour)) {
            return refused(WRONG_NUMBER);
        }
        if (!street.isPerson(person)) {
            return refused(NOT_THERE);
        }
        return acceptedUnlessCannot(street.tryAuction(person, hour, log));
    }

    public int undo() {
        return acceptedUnlessCannot(log.takeBack(street));
    }

    public int met(int one, int other, int what) {
        if (!street.isPerson(one) || !street.isPerson(other) || what < 0 || what > FACTS) {
            return NONE;
        }
        if (what == 0) {
            return one == other ? NONE : company.hoursTogether(one, other);
        }
        return company.knowsOf(one, other, what - 1) ? 1 : 0;
    }

    public int learned(int person, int fact) {
        if (!street.isPerson(person) || !isFact(fact)) {
            return NONE;
        }
        return street.hourOfLearning(person, fact);
    }

    public int deep(int n) {
        if (n < 1 || n > 3 || street.people == 0) {
            return NONE;
        }
        return company.factsKnownDeep(n);
    }

    public int lies(int i) {
        if (i < NONE) {
            return NONE;
        }
        return i == NONE ? company.countLies() : company.lieAt(i);
    }

    public int forged(int hour) {
        if (hour == NONE) {
            return company.countForged();
        }
        return isHour(hour) ? company.forgersOf(hour) : NONE;
    }

    public int stray(int hour, int with) {
        if (!isHour(hour) || !street.arePeople(with)) {
            return NONE;
        }
        return company.ownersOfStray(hour, with);
    }

    public int raise(int person, int sum, int facts, int what) {
        if (!street.isPerson(person) || sum < 0 || sum > MOST_SUM || facts < 0 || facts >= 1 << FACTS) {
            return NONE;
        }
        if (what < 0 || what > 2 || !raising.plan(person, sum, facts)) {
            return NONE;
        }
        if (what == 0) {
            return raising.leastWorth;
        }
        return what == 1 ? raising.bestHours : raising.bestLent;
    }

    public int cheapest(int person, int i) {
        if (!street.isPerson(person) || i < NONE || !redeeming.plan(person)) {
            return NONE;
        }
        return i == NONE ? redeeming.leastPaid : redeeming.hourAt(i);
    }

    public int bid(int person, int lot, int value) {
        if (lot < 0 || lot >= LOTS || value < 0 || value > MOST_BID) {
            return refused(WRONG_NUMBER);
        }
        if (!street.isPerson(person)) {
            return refused(NOT_THERE);
        }
        int was = street.bids[person * LOTS + lot];
        street.bids[person * LOTS + lot] = value;
        return accepted(was);
    }

    public int sale(int what) {
        if (what < 0 || what > 2 * LOTS) {
            return NONE;
        }
        market.settle();
        if (what == 0) {
            return market.total();
        }
        return what <= LOTS ? market.buyerOf(what - 1) : market.paymentFor(what - 1 - LOTS);
    }

    public long lasting(int person, int sum, int n) {
        if (!street.isPerson(person) || sum < 0 || sum > MOST_SUM || n < 0 || n > MOST_LASTING_DAYS) {
            return NONE;
        }
        return chanceOfLasting(street.purses[person], sum, n);
    }

    public int years(int seed, int n) {
        if (seed < 0 || seed > MOST_SEED || n < 1 || n > MOST_YEARS_DAYS) {
            return refused(WRONG_NUMBER);
        }
        if (street.people == 0) {
            return refused(CANNOT);
        }
        spare.copyFrom(street);
        return accepted(latestYears.live(spare, spareLog, seed, n));
    }

    public int drawn(int person, int what) {
        if (person < 0 || person >= latestYears.people) {
            return NONE;
        }
        switch (what) {
            case 0:
                return latestYears.purses[person];
            case 1:
                return latestYears.known[person];
            case 2:
                return latestYears.held[person];
            default:
                return NONE;
        }
    }

    public int image(int k) {
        if (k < 0 || k >= IMAGES) {
            return refused(WRONG_NUMBER);
        }
        images[k].copyFrom(street);
        imageKept[k] = true;
        return accepted(0);
    }

    public int back(int k) {
        if (k < 0 || k >= IMAGES) {
            return refused(WRONG_NUMBER);
        }
        if (!imageKept[k]) {
            return refused(NOT_THERE);
        }
        street.copyFrom(images[k]);
        log.forget();
        return accepted(0);
    }

    public int count(int what) {
        switch (what) {
            case 0:
                return street.people;
            case 1:
                return street.countAll(PAWNED);
            case 2:
                return street.countAll(LOST);
            case 3:
                return street.lawCount;
            case 4:
                return log.size;
            case 5:
                return reader.length;
            case 6:
                return refusals[-WRONG_NUMBER];
            case 7:
                return refusals[-NOT_THERE];
            case 8:
                return refusals[-CANNOT];
            case 9:
                return refusals[-NO_ROOM];
            case 10:
                return refusals[-UNREADABLE];
            case 11:
                return street.inForce;
            default:
                return what >= 12 && what < 12 + TERMS ? street.terms[what - 12] : NONE;
        }
    }

    public int status() {
        return latestStatus;
    }

    private int refused(int reason) {
        if (-reason >= 0 && -reason < refusals.length) {
            refusals[-reason]++;
        }
        latestStatus = reason;
        return reason;
    }

    private int accepted(int answer) {
        latestStatus = 0;
        return answer;
    }

    /** Only for answers that are never below 0 themselves. */
    private int acceptedUnlessCannot(int answer) {
        return answer == CANNOT ? refused(CANNOT) : accepted(answer);
    }

    private boolean tellFromTape(int person, int i) {
        int first = i * ROW_BYTES;
        if (i >= HOURS || first + ROW_BYTES > reader.length) {
            return false;
        }
        int fact = reader.bytes[first] - 1;
        int with = reader.bytes[first + 1];
        int worth = reader.bytes[first + 2];
        if (!street.canBeTold(person, 0, fact) || !street.canBeTold(person, 1, with)
                || !street.canBeTold(person, 2, worth)) {
            return false;
        }
        int place = placeOf(person, i);
        street.tell(place, 0, fact);
        street.tell(place, 1, with);
        street.tell(place, 2, worth);
        return true;
    }

    /** parts[k]: of all parts those in which the sum was asked for k times and could be paid each time. */
    private long chanceOfLasting(int purse, int sum, int n) {
        long[] parts = lastingParts;
        Arrays.fill(parts, 0);
        parts[0] = ALL_PARTS;
        int odds = street.terms[ODDS];
        for (int day = 1; day <= n; day++) {
            long earned = purse + (long) day * street.terms[INCOME];
            // From the highest k down, so that what moves up by one is not asked again on the same day.
            for (int k = day - 1; k >= 0; k--) {
                long asked = parts[k] * odds / 10;
                parts[k] = parts[k] * (10 - odds) / 10;
                if (earned >= (long) sum * (k + 1)) {
                    parts[k + 1] += asked;
                }
            }
        }
        long all = 0;
        for (int k = 0; k <= n; k++) {
            all += parts[k];
        }
        return all;
    }

    private static boolean isHour(int hour) {
        return hour >= 0 && hour < HOURS;
    }

    private static boolean isFact(int fact) {
        return fact >= 0 && fact < FACTS;
    }

    private static int placeOf(int person, int hour) {
        return person * HOURS + hour;
    }

    /** All that an image keeps, and the changes that the laws rule. */
    private static final class Street {
        final Machine machine;
        int people;
        final int[] purses = new int[PEOPLE];
        final int[] facts = new int[PEOPLE * HOURS];
        final int[] withs = new int[PEOPLE * HOURS];
        final int[] worths = new int[PEOPLE * HOURS];
        final int[] states = new int[PEOPLE * HOURS];
        /** Of hours that are pawned; NONE for all others. */
        final int[] loans = new int[PEOPLE * HOURS];
        final int[] days = new int[PEOPLE * HOURS];
        final int[] needed = new int[FACTS];
        final int[] bids = new int[PEOPLE * LOTS];
        final int[] terms = new int[TERMS];
        final Program[] laws = new Program[LAWS];
        int lawCount;
        int inForce;

        Street(Machine machine) {
            this.machine = machine;
            Arrays.fill(facts, NONE);
            Arrays.fill(worths, 1);
            Arrays.fill(loans, NONE);
            Arrays.fill(days, NONE);
            Arrays.fill(needed, NONE);
            System.arraycopy(FIRST_TERM, 0, terms, 0, TERMS);
            inForce = NONE;
        }

        void copyFrom(Street other) {
            people = other.people;
            System.arraycopy(other.purses, 0, purses, 0, PEOPLE);
            System.arraycopy(other.facts, 0, facts, 0, PEOPLE * HOURS);
            System.arraycopy(other.withs, 0, withs, 0, PEOPLE * HOURS);
            System.arraycopy(other.worths, 0, worths, 0, PEOPLE * HOURS);
            System.arraycopy(other.states, 0, states, 0, PEOPLE * HOURS);
            System.arraycopy(other.loans, 0, loans, 0, PEOPLE * HOURS);
            System.arraycopy(other.days, 0, days, 0, PEOPLE * HOURS);
            System.arraycopy(other.needed, 0, needed, 0, FACTS);
            System.arraycopy(other.bids, 0, bids, 0, PEOPLE * LOTS);
            System.arraycopy(other.terms, 0, terms, 0, TERMS);
            for (int i = 0; i < LAWS; i++) {
                laws[i] = other.laws[i];
            }
            lawCount = other.lawCount;
            inForce = other.inForce;
        }

        boolean isPerson(int person) {
            return person >= 0 && person < people;
        }

        boolean arePeople(int bits) {
            return bits >= 0 && bits < 1 << people;
        }

        boolean canBeTold(int person, int what, int value) {
            switch (what) {
                case 0:
                    return value == NONE || isFact(value);
                case 1:
                    return arePeople(value) && !hasBit(value, person);
                case 2:
                    return value >= 0 && value <= MOST_WORTH;
                default:
                    return false;
            }
        }

        int tell(int place, int what, int value) {
            int[] told = what == 0 ? facts : what == 1 ? withs : worths;
            int was = told[place];
            told[place] = value;
            return was;
        }

        int hoursThatAre(int state, int person) {
            int bits = 0;
            for (int hour = 0; hour < HOURS; hour++) {
                if (states[placeOf(person, hour)] == state) {
                    bits |= 1 << hour;
                }
            }
            return bits;
        }

        int countAll(int state) {
            int all = 0;
            for (int person = 0; person < people; person++) {
                all += Integer.bitCount(hoursThatAre(state, person));
            }
            return all;
        }

        int latestPawnDay() {
            int latest = NONE;
            for (int place = 0; place < people * HOURS; place++) {
                latest = Math.max(latest, days[place]);
            }
            return latest;
        }

        boolean holds(int person, int hour) {
            return states[placeOf(person, hour)] == HELD;
        }

        boolean wasWith(int person, int hour, int other) {
            return hasBit(withs[placeOf(person, hour)], other);
        }

        boolean metIn(int hour, int one, int other) {
            return holds(one, hour) && holds(other, hour)
                    && wasWith(one, hour, other) && wasWith(other, hour, one);
        }

        /** What one would know without some of the hours that one holds. */
        int knownWithout(int person, int goneHours) {
            int known = 0;
            for (int hour = 0; hour < HOURS; hour++) {
                if (holds(person, hour) && !hasBit(goneHours, hour)) {
                    known |= learnable(facts[placeOf(person, hour)], known);
                }
            }
            return known;
        }

        int hourOfLearning(int person, int fact) {
            int known = 0;
            for (int hour = 0; hour < HOURS; hour++) {
                if (holds(person, hour)) {
                    known |= learnable(facts[placeOf(person, hour)], known);
                }
                if (hasBit(known, fact)) {
                    return hour;
                }
            }
            return NONE;
        }

        private int learnable(int fact, int known) {
            if (fact == NONE) {
                return 0;
            }
            return needed[fact] == NONE || hasBit(known, needed[fact]) ? 1 << fact : 0;
        }

        /**
         * What the law in force says of an hour: what it lends, what it costs to have it back,
         * whether it is barred. today may lie behind the last day: plans on paper look further.
         */
        int ruled(int kind, int person, int hour, int today) {
            int place = placeOf(person, hour);
            int since = kind == COSTS ? today - days[place] : NONE;
            describe(person, hour, kind == COSTS ? loans[place] : NONE, since, today);
            Program law = inForce >= 0 && inForce < lawCount ? laws[inForce] : null;
            int clauses = law == null ? 0 : law.clauses;
            for (int clause = clauses - 1; clause >= 0; clause--) {
                if (law.kindOf(clause) == kind && (law.isEmpty(clause, Program.TEST)
                        || machine.value(law, clause, Program.TEST) == 1)) {
                    long told = kind == BARS ? 1 : machine.value(law, clause, Program.FIRST_SUM);
                    if (told != Machine.BROKEN) {
                        return (int) Math.max(0, Math.min(MOST_TOLD[kind], told));
                    }
                }
            }
            if (kind == COSTS) {
                return loans[place] + since;
            }
            return kind == LENDS ? worths[place] : 0;
        }

        private void describe(int person, int hour, int loan, int since, int today) {
            int place = placeOf(person, hour);
            int[] words = machine.words;
            words[0] = person;
            words[1] = hour;
            words[2] = facts[place];
            words[3] = Integer.bitCount(withs[place]);
            words[4] = worths[place];
            words[5] = loan;
            words[6] = since;
            words[7] = today;
            words[8] = terms[MOOD];
        }

        int tryPawn(int person, int hour, Log log) {
            int place = placeOf(person, hour);
            if (states[place] != HELD || ruled(BARS, person, hour, terms[DAY]) == 1) {
                return CANNOT;
            }
            int lent = ruled(LENDS, person, hour, terms[DAY]);
            log.add(TO_PAWN, place, this);
            purses[person] = Math.min(MOST_PURSE, purses[person] + lent);
            setState(place, PAWNED, lent, terms[DAY]);
            return lent;
        }

        int tryRedeem(int person, int hour, Log log) {
            int place = placeOf(person, hour);
            if (states[place] != PAWNED) {
                return CANNOT;
            }
            int cost = ruled(COSTS, person, hour, terms[DAY]);
            if (purses[person] < cost) {
                return CANNOT;
            }
            log.add(TO_REDEEM, place, this);
            purses[person] -= cost;
            setState(place, HELD, NONE, NONE);
            return cost;
        }

        int tryNextDay(Log log) {
            if (terms[DAY] >= LAST_DAY) {
                return CANNOT;
            }
            log.add(TO_PASS, 0, this);
            terms[DAY]++;
            for (int person = 0; person < people; person++) {
                purses[person] = Math.min(MOST_PURSE, purses[person] + terms[INCOME]);
            }
            return terms[DAY];
        }

        int tryAuction(int person, int hour, Log log) {
            int place = placeOf(person, hour);
            if (states[place] != PAWNED || terms[DAY] - days[place] < terms[PATIENCE]) {
                return CANNOT;
            }
            int loan = loans[place];
            log.add(TO_AUCTION, place, this);
            setState(place, LOST, NONE, NONE);
            return loan;
        }

        void setState(int place, int state, int loan, int day) {
            states[place] = state;
            loans[place] = loan;
            days[place] = day;
        }

        static boolean hasBit(int bits, int i) {
            return i >= 0 && i < 31 && (bits >> i & 1) == 1;
        }
    }

    /** The latest changes that can be undone: of each what stood ahead of it. */
    private static final class Log {
        private static final int ROOM = 16;
        private static final int WIDTH = 6 + PEOPLE;

        private final int[] entries = new int[ROOM * WIDTH];
        /** Where the next entry goes; the oldest one gives way. */
        private int next;
        int size;

        void add(int kind, int place, Street street) {
            int at = next * WIDTH;
            entries[at] = kind;
            entries[at + 1] = place;
            entries[at + 2] = street.states[place];
            entries[at + 3] = street.loans[place];
            entries[at + 4] = street.days[place];
            entries[at + 5] = street.terms[DAY];
            System.arraycopy(street.purses, 0, entries, at + 6, PEOPLE);
            next = (next + 1) % ROOM;
            size = Math.min(ROOM, size + 1);
        }

        /** The kind of what was undone. */
        int takeBack(Street street) {
            if (size == 0) {
                return CANNOT;
            }
            size--;
            next = (next + ROOM - 1) % ROOM;
            int at = next * WIDTH;
            street.setState(entries[at + 1], entries[at + 2], entries[at + 3], entries[at + 4]);
            street.terms[DAY] = entries[at + 5];
            System.arraycopy(entries, at + 6, street.purses, 0, PEOPLE);
            return entries[at];
        }

        void forget() {
            size = 0;
        }

        void copyFrom(Log other) {
            System.arraycopy(other.entries, 0, entries, 0, ROOM * WIDTH);
            next = other.next;
            size = other.size;
        }
    }

    /** A law or orders as read: heads of clauses, and code for the machine. */
    private static final class Program {
        static final int FIRST_SUM = 0;
        static final int SECOND_SUM = 1;
        static final int TEST = 2;
        /** Of a clause: its kind, its times, where its pieces start, and where the last one ends. */
        private static final int HEAD = 6;
        private static final int PIECES = 2;

        final int clauses;
        private final int[] heads;
        final int[] code;

        Program(int clauses, int[] heads, int[] code) {
            this.clauses = clauses;
            this.heads = heads;
            this.code = code;
        }

        int kindOf(int clause) {
            return heads[clause * HEAD];
        }

        int timesOf(int clause) {
            return heads[clause * HEAD + 1];
        }

        int startOf(int clause, int piece) {
            return heads[clause * HEAD + PIECES + piece];
        }

        int endOf(int clause, int piece) {
            return heads[clause * HEAD + PIECES + piece + 1];
        }

        boolean isEmpty(int clause, int piece) {
            return startOf(clause, piece) >= endOf(clause, piece);
        }
    }

    /** Works out sums and tests from code in which what is joined stands ahead of what joins it. */
    private static final class Machine {
        /** No sum comes near it. */
        static final long BROKEN = -4_000_000_000_000_000_000L;
        private static final long BOUND = 1_000_000_000L;
        private static final int STACK = 40;

        /** An instruction is its argument times this, and its kind. */
        static final int KINDS = 32;
        static final int NUMBER = 0;
        static final int WORD = 1;
        static final int KNOWS = 2;
        static final int NOT = 3;
        static final int OR = 4;
        static final int AND = 5;
        static final int PLUS = 6;
        static final int MINUS = 7;
        static final int TIMES = 8;
        static final int DIVIDED = 9;
        static final int LEFT_OVER = 10;
        static final int LESS = 11;
        static final int MORE = 12;
        static final int SAME = 13;

        /** What words tell now: nine of a law, or of orders as the runner lays them out. */
        final int[] words = new int[Runner.WORDS];
        private final long[] stack = new long[STACK];

        /** A piece's value; of a test 1 or 0. Whatever breaks within what is asked breaks the whole. */
        long value(Program program, int clause, int piece) {
            int end = Math.min(program.endOf(clause, piece), program.code.length);
            int top = NONE;
            // Jumps only go forward, so each instruction is met once at most.
            for (int at = program.startOf(clause, piece); at < end; at++) {
                int kind = program.code[at] % KINDS;
                int argument = program.code[at] / KINDS;
                if (kind <= KNOWS) {
                    if (top + 1 >= STACK) {
                        return BROKEN;
                    }
                    top++;
                    stack[top] = operand(kind, argument);
                } else if (top < 0) {
                    return BROKEN;
                } else if (kind == NOT) {
                    stack[top] = 1 - stack[top];
                } else if (kind == OR || kind == AND) {
                    boolean decided = (stack[top] == 1) == (kind == OR);
                    at = decided ? Math.max(at, argument - 1) : at;
                    top = decided ? top : top - 1;
                } else if (top < 1) {
                    return BROKEN;
                } else {
                    top--;
                    stack[top] = join(kind, stack[top], stack[top + 1]);
                    if (stack[top] == BROKEN) {
                        return BROKEN;
                    }
                }
            }
            return top == 0 ? stack[0] : BROKEN;
        }

        private long operand(int kind, int argument) {
            if (kind == NUMBER) {
                return argument;
            }
            int at = kind == WORD ? argument : Runner.KNOWN + argument / FACTS;
            int told = at < words.length ? words[at] : NONE;
            return kind == WORD || told == NONE ? told : (told >> (argument % FACTS)) & 1;
        }

        private static long join(int kind, long one, long other) {
            if (other == 0 && (kind == DIVIDED || kind == LEFT_OVER)) {
                return BROKEN;
            }
            long joined;
            switch (kind) {
                case PLUS:
                    joined = one + other;
                    break;
                case MINUS:
                    joined = one - other;
                    break;
                case TIMES:
                    joined = one * other;
                    break;
                case DIVIDED:
                    joined = one / other;
                    break;
                case LEFT_OVER:
                    joined = one % other;
                    break;
                case LESS:
                    joined = one < other ? 1 : 0;
                    break;
                case MORE:
                    joined = one > other ? 1 : 0;
                    break;
                default:
                    joined = one == other ? 1 : 0;
                    break;
            }
            return joined > BOUND || joined < -BOUND ? BROKEN : joined;
        }
    }

    /** The tape, and what reads it as a law or as orders. */
    private static final class Reader {
        private static final int CLAUSES = 12;
        private static final int PARTS = 50;
        private static final int BRACKETS = 8;
        private static final int MOST_NUMBER = 1_000;
        private static final int MOST_TIMES = 20;
        private static final int LETTER = 0;
        private static final int DIGIT = 1;
        private static final int SIGN = 2;

        final int[] bytes = new int[TAPE_ROOM];
        int length;
        int fault;
        private boolean readsOrders;
        /** Where tokens start and end; behind the last one stands an empty one at the text's length. */
        private final int[] starts = new int[TAPE_ROOM + 1];
        private final int[] ends = new int[TAPE_ROOM + 1];
        private final int[] kinds = new int[TAPE_ROOM + 1];
        private int lastToken;
        private int token;
        private int parts;
        private int brackets;
        private int clauses;
        private final int[] heads = new int[CLAUSES * Program.HEAD];
        private final int[] code = new int[TAPE_ROOM];
        private int codeLength;

        void addFour(int number) {
            for (int shift = 24; shift >= 0 && length < TAPE_ROOM; shift -= 8) {
                bytes[length] = number >> shift & 255;
                length++;
            }
        }

        /** What the tape tells; null, if it has a fault. */
        Program read(boolean asOrders) {
            readsOrders = asOrders;
            fault = NONE;
            parts = 0;
            brackets = 0;
            codeLength = 0;
            clauses = 0;
            findTokens();
            readClause();
            for (int i = 1; i <= CLAUSES && says(";"); i++) {
                advance();
                readClause();
            }
            if (token < lastToken) {
                fail();
            }
            if (fault != NONE) {
                return null;
            }
            return new Program(clauses, Arrays.copyOf(heads, clauses * Program.HEAD), Arrays.copyOf(code, codeLength));
        }

        private void findTokens() {
            token = 0;
            lastToken = 0;
            int before = SIGN;
            for (int i = 0; i < length; i++) {
                int kind = kindOfByte(bytes[i]);
                if (bytes[i] != ' ' && (kind == SIGN || kind != before)) {
                    starts[lastToken] = i;
                    kinds[lastToken] = kind;
                    lastToken++;
                }
                if (bytes[i] != ' ') {
                    ends[lastToken - 1] = i + 1;
                }
                before = kind;
            }
            starts[lastToken] = length;
            ends[lastToken] = length;
            kinds[lastToken] = SIGN;
        }

        private static int kindOfByte(int b) {
            if (b >= 'a' && b <= 'z') {
                return LETTER;
            }
            return b >= '0' && b <= '9' ? DIGIT : SIGN;
        }

        private void advance() {
            token = Math.min(token + 1, lastToken);
        }

        /** Behind a fault no token says anything, so all that reads on ends by itself. */
        private void fail() {
            if (fault == NONE) {
                fault = starts[token];
            }
        }

        private boolean says(String text) {
            int start = starts[token];
            if (fault != NONE || ends[token] - start != text.length()) {
                return false;
            }
            for (int i = 0; i < text.length(); i++) {
                if (bytes[start + i] != text.charAt(i)) {
                    return false;
                }
            }
            return true;
        }

        private void expect(String text) {
            if (says(text)) {
                advance();
            } else {
                fail();
            }
        }

        private boolean isNumber() {
            return fault == NONE && kinds[token] == DIGIT;
        }

        /** The number here; 0 with a fault, if there is none from least to most. */
        private int readNumber(int least, int most) {
            int number = isNumber() ? 0 : NONE;
            for (int i = starts[token]; i < ends[token] && number != NONE; i++) {
                number = Math.min(MOST_NUMBER + 1, number * 10 + bytes[i] - '0');
            }
            if (number < least || number > most) {
                fail();
                return 0;
            }
            advance();
            return number;
        }

        private void readClause() {
            int kind = clauses < CLAUSES ? kindHere() : NONE;
            if (kind == NONE) {
                fail();
                return;
            }
            advance();
            int head = clauses * Program.HEAD;
            clauses++;
            heads[head] = kind;
            heads[head + 1] = 1;
            boolean hasSum = readsOrders ? kind != TO_PASS : kind != BARS;
            startPiece(head, Program.FIRST_SUM);
            if (hasSum) {
                readSum();
            }
            startPiece(head, Program.SECOND_SUM);
            if (hasSum && readsOrders) {
                expect("of");
                readSum();
            }
            if (readsOrders && says("times")) {
                advance();
                heads[head + 1] = readNumber(1, MOST_TIMES);
            }
            startPiece(head, Program.TEST);
            if (says("if")) {
                advance();
                readTest();
            }
            startPiece(head, Program.TEST + 1);
        }

        private int kindHere() {
            if (says(readsOrders ? "pawn" : "lends")) {
                return readsOrders ? TO_PAWN : LENDS;
            }
            if (says(readsOrders ? "redeem" : "costs")) {
                return readsOrders ? TO_REDEEM : COSTS;
            }
            if (says(readsOrders ? "pass" : "bars")) {
                return readsOrders ? TO_PASS : BARS;
            }
            return NONE;
        }

        private void startPiece(int head, int piece) {
            heads[head + Program.PIECES + piece] = codeLength;
        }

        private void readTest() {
            readBoth();
            int jump = NONE;
            for (int i = 0; i < TAPE_ROOM && says("or"); i++) {
                advance();
                jump = addJump(Machine.OR, jump);
                readBoth();
            }
            land(jump);
        }

        private void readBoth() {
            readPlain();
            int jump = NONE;
            for (int i = 0; i < TAPE_ROOM && says("and"); i++) {
                advance();
                jump = addJump(Machine.AND, jump);
                readPlain();
            }
            land(jump);
        }

        private void readPlain() {
            int nots = 0;
            while (nots < TAPE_ROOM && says("not")) {
                advance();
                nots++;
            }
            if (says("(")) {
                open();
                readTest();
                brackets--;
                expect(")");
            } else {
                readSum();
                int kind = comparisonHere();
                advance();
                readSum();
                add(kind, 0);
            }
            if (nots % 2 == 1) {
                add(Machine.NOT, 0);
            }
        }

        private int comparisonHere() {
            if (says("<")) {
                return Machine.LESS;
            }
            if (says(">")) {
                return Machine.MORE;
            }
            if (!says("=")) {
                fail();
            }
            return Machine.SAME;
        }

        private void readSum() {
            readTerm();
            for (int i = 0; i < TAPE_ROOM && (says("+") || says("-")); i++) {
                int kind = says("+") ? Machine.PLUS : Machine.MINUS;
                advance();
                readTerm();
                add(kind, 0);
            }
        }

        private void readTerm() {
            readPart();
            for (int i = 0; i < TAPE_ROOM && (says("*") || says("/") || says("%")); i++) {
                int kind = says("*") ? Machine.TIMES : says("/") ? Machine.DIVIDED : Machine.LEFT_OVER;
                advance();
                readPart();
                add(kind, 0);
            }
        }

        private void readPart() {
            if (says("[")) {
                open();
                readSum();
                brackets--;
                expect("]");
                return;
            }
            parts++;
            boolean isNumber = isNumber();
            int word = isNumber ? NONE : readsOrders ? wordOfOrders() : wordOfLaw();
            if (parts > PARTS || !isNumber && word == NONE) {
                fail();
            } else if (isNumber) {
                add(Machine.NUMBER, readNumber(0, MOST_NUMBER));
            } else {
                advance();
                int person = readsOrders && word >= Runner.PURSE ? readNumber(0, PEOPLE - 1) : 0;
                if (readsOrders && word == Runner.KNOWN) {
                    add(Machine.KNOWS, person * FACTS + readNumber(0, FACTS - 1));
                } else {
                    add(Machine.WORD, word + person);
                }
            }
        }

        /** In the row in which a street describes an hour. */
        private int wordOfLaw() {
            if (says("person")) {
                return 0;
            }
            if (says("hour")) {
                return 1;
            }
            if (says("fact")) {
                return 2;
            }
            if (says("with")) {
                return 3;
            }
            if (says("worth")) {
                return 4;
            }
            if (says("loan")) {
                return 5;
            }
            if (says("days")) {
                return 6;
            }
            if (says("today")) {
                return 7;
            }
            return says("mood") ? 8 : NONE;
        }

        private int wordOfOrders() {
            if (says("now")) {
                return Runner.NOW;
            }
            if (says("done")) {
                return Runner.DONE;
            }
            if (says("last")) {
                return Runner.LAST;
            }
            if (says("purse")) {
                return Runner.PURSE;
            }
            if (says("held")) {
                return Runner.HOW_MANY_HELD;
            }
            return says("knows") ? Runner.KNOWN : NONE;
        }

        private void open() {
            brackets++;
            if (brackets > BRACKETS) {
                fail();
            } else {
                advance();
            }
        }

        private void add(int kind, int argument) {
            if (fault == NONE && codeLength < TAPE_ROOM) {
                code[codeLength] = argument * Machine.KINDS + kind;
                codeLength++;
            }
        }

        /** Each jump leads to the next one of its row, and only the last one to the row's end. */
        private int addJump(int kind, int earlier) {
            land(earlier);
            add(kind, 0);
            return fault == NONE ? codeLength - 1 : NONE;
        }

        private void land(int jump) {
            if (jump >= 0 && jump < codeLength) {
                code[jump] += codeLength * Machine.KINDS;
            }
        }
    }

    /** Runs orders; what they changed before one that can't be is put back by the caller. */
    private static final class Runner {
        static final int NOW = 0;
        static final int DONE = 1;
        static final int LAST = 2;
        /** From these on by persons; known as bits. */
        static final int PURSE = 3;
        static final int HOW_MANY_HELD = PURSE + PEOPLE;
        static final int KNOWN = HOW_MANY_HELD + PEOPLE;
        static final int WORDS = KNOWN + PEOPLE;

        /** Not the streets' own, whose words laws write anew each time they are asked. */
        private final Machine machine = new Machine();
        int done;

        /** The clause that could not be, or NONE. */
        int run(Program program, Street street, Log log) {
            done = 0;
            machine.words[LAST] = NONE;
            for (int person = 0; person < PEOPLE; person++) {
                look(street, person);
            }
            for (int clause = 0; clause < program.clauses; clause++) {
                int times = program.timesOf(clause);
                for (int i = 0; i < times; i++) {
                    machine.words[NOW] = street.terms[DAY];
                    machine.words[DONE] = done;
                    if (program.isEmpty(clause, Program.TEST) || machine.value(program, clause, Program.TEST) == 1) {
                        if (!runOnce(program, clause, street, log)) {
                            return clause;
                        }
                        done++;
                    }
                }
            }
            return NONE;
        }

        private boolean runOnce(Program program, int clause, Street street, Log log) {
            int kind = program.kindOf(clause);
            if (kind == TO_PASS) {
                int day = street.tryNextDay(log);
                System.arraycopy(street.purses, 0, machine.words, PURSE, street.people);
                return day != CANNOT;
            }
            long hour = machine.value(program, clause, Program.FIRST_SUM);
            long person = machine.value(program, clause, Program.SECOND_SUM);
            if (hour < 0 || hour >= HOURS || person < 0 || person >= street.people) {
                return false;
            }
            int moved = kind == TO_PAWN ? street.tryPawn((int) person, (int) hour, log)
                    : street.tryRedeem((int) person, (int) hour, log);
            machine.words[LAST] = moved;
            look(street, (int) person);
            return moved != CANNOT;
        }

        private void look(Street street, int person) {
            boolean isThere = street.isPerson(person);
            machine.words[PURSE + person] = isThere ? street.purses[person] : NONE;
            machine.words[HOW_MANY_HELD + person] = isThere
                    ? Integer.bitCount(street.hoursThatAre(HELD, person)) : NONE;
            machine.words[KNOWN + person] = isThere ? street.knownWithout(person, 0) : NONE;
        }
    }

    /** Who met whom, who knows of whom, whose word stands against whose. */
    private static final class Company {
        private final Street street;
        /** Of each person those with whom a lie lies between them, whoever of the two lies. */
        private final int[] against = new int[PEOPLE];

        Company(Street street) {
            this.street = street;
        }

        int hoursTogether(int one, int other) {
            int bits = 0;
            for (int hour = 0; hour < HOURS; hour++) {
                if (street.metIn(hour, one, other)) {
                    bits |= 1 << hour;
                }
            }
            return bits;
        }

        boolean knowsOf(int one, int other, int fact) {
            int hour = street.hourOfLearning(other, fact);
            return hour != NONE && street.hourOfLearning(one, fact) != NONE
                    && (one == other || street.metIn(hour, one, other));
        }

        int factsKnownDeep(int n) {
            int known = (1 << FACTS) - 1;
            for (int person = 0; person < street.people; person++) {
                known &= street.knownWithout(person, 0);
            }
            for (int learner = 0; learner < street.people && n > 1; learner++) {
                for (int fact = 0; fact < FACTS; fact++) {
                    if (Street.hasBit(known, fact) && !isKnownOf(learner, fact, n)) {
                        known &= ~(1 << fact);
                    }
                }
            }
            return known;
        }

        /**
         * Of a fact that all know: whether all know that the learner does (n 2),
         * and all know that of all (3): then any two must have met in the learner's hour.
         */
        private boolean isKnownOf(int learner, int fact, int n) {
            int hour = street.hourOfLearning(learner, fact);
            if (hour == NONE) {
                return false;
            }
            for (int one = 0; one < street.people; one++) {
                for (int other = 0; other < one; other++) {
                    boolean matters = n > 2 || one == learner || other == learner;
                    if (matters && !street.metIn(hour, one, other)) {
                        return false;
                    }
                }
            }
            return true;
        }

        private boolean isLie(int hour, int who, int whom) {
            return who != whom && street.holds(who, hour) && street.holds(whom, hour)
                    && street.wasWith(who, hour, whom) && !street.wasWith(whom, hour, who);
        }

        int countLies() {
            int all = 0;
            for (int hour = 0; hour < HOURS; hour++) {
                for (int pair = 0; pair < PEOPLE * PEOPLE; pair++) {
                    if (isLieOfPair(hour, pair)) {
                        all++;
                    }
                }
            }
            return all;
        }

        int lieAt(int i) {
            int left = i;
            for (int hour = 0; hour < HOURS; hour++) {
                for (int pair = 0; pair < PEOPLE * PEOPLE; pair++) {
                    if (isLieOfPair(hour, pair)) {
                        if (left == 0) {
                            return hour * PEOPLE * PEOPLE + pair;
                        }
                        left--;
                    }
                }
            }
            return NONE;
        }

        private boolean isLieOfPair(int hour, int pair) {
            int who = pair / PEOPLE;
            int whom = pair % PEOPLE;
            return street.isPerson(who) && street.isPerson(whom) && isLie(hour, who, whom);
        }

        int countForged() {
            int all = 0;
            for (int hour = 0; hour < HOURS; hour++) {
                all += Integer.bitCount(forgersOf(hour));
            }
            return all;
        }

        /** The fewest, and of these the lowest as bits. */
        int forgersOf(int hour) {
            int best = (1 << street.people) - 1;
            findLies(hour);
            for (int struck = 0; struck < 1 << street.people; struck++) {
                if (Integer.bitCount(struck) < Integer.bitCount(best) && leavesNoLie(struck)) {
                    best = struck;
                }
            }
            return best;
        }

        private void findLies(int hour) {
            Arrays.fill(against, 0);
            for (int who = 0; who < street.people; who++) {
                for (int whom = 0; whom < street.people; whom++) {
                    if (isLie(hour, who, whom)) {
                        against[who] |= 1 << whom;
                        against[whom] |= 1 << who;
                    }
                }
            }
        }

        private boolean leavesNoLie(int struck) {
            for (int person = 0; person < street.people; person++) {
                if (!Street.hasBit(struck, person) && (against[person] & ~struck) != 0) {
                    return false;
                }
            }
            return true;
        }

        int ownersOfStray(int hour, int with) {
            int owners = 0;
            for (int person = 0; person < street.people; person++) {
                if (!street.holds(person, hour) && !Street.hasBit(with, person) && fitsHolders(person, hour, with)) {
                    owners |= 1 << person;
                }
            }
            return owners;
        }

        private boolean fitsHolders(int person, int hour, int with) {
            for (int other = 0; other < street.people; other++) {
                if (street.holds(other, hour) && street.wasWith(other, hour, person) != Street.hasBit(with, other)) {
                    return false;
                }
            }
            return true;
        }
    }

    /** What to pawn for a sum: a search through the sets of hours, the lowest as bits first. */
    private static final class Raising {
        private final Street street;
        private final int[] lent = new int[HOURS];
        /** What the hours below one lend together. */
        private final int[] lentBelow = new int[HOURS + 1];
        private int person;
        private int sum;
        private int mustKnow;
        private int allowed;
        int leastWorth;
        int bestHours;
        int bestLent;

        Raising(Street street) {
            this.street = street;
        }

        boolean plan(int somebody, int wanted, int facts) {
            person = somebody;
            sum = wanted;
            mustKnow = facts & street.knownWithout(person, 0);
            allowed = 0;
            for (int hour = 0; hour < HOURS; hour++) {
                boolean can = street.holds(person, hour) && street.ruled(BARS, person, hour, street.terms[DAY]) == 0;
                lent[hour] = can ? street.ruled(LENDS, person, hour, street.terms[DAY]) : 0;
                lentBelow[hour + 1] = lentBelow[hour] + lent[hour];
                allowed |= can ? 1 << hour : 0;
            }
            leastWorth = NO_PLAN;
            search(HOURS, 0, 0, 0);
            return leastWorth != NO_PLAN;
        }

        /** Hours from open on are settled. */
        private void search(int open, int hours, int lentNow, int worth) {
            // A set that is met later is higher as bits, so it must be of less worth.
            if (worth >= leastWorth || lentNow + lentBelow[open] < sum) {
                return;
            }
            if (open == 0) {
                leastWorth = worth;
                bestHours = hours;
                bestLent = lentNow;
                return;
            }
            int hour = open - 1;
            search(hour, hours, lentNow, worth);
            int more = hours | 1 << hour;
            int place = placeOf(person, hour);
            if (Street.hasBit(allowed, hour) && (street.facts[place] == NONE || leavesKnown(more))) {
                search(hour, more, lentNow + lent[hour], worth + street.worths[place]);
            }
        }

        private boolean leavesKnown(int gone) {
            return mustKnow == 0 || (street.knownWithout(person, gone) & mustKnow) == mustKnow;
        }
    }

    /** The cheapest order to redeem: a search through the rows of hours, the first ones first. */
    private static final class Redeeming {
        private static final int MOST = 6;
        private static final int WAIT = 60;

        private final Street street;
        private final int[] hours = new int[MOST];
        private final int[] row = new int[MOST];
        private final int[] bestRow = new int[MOST];
        /** By hours and days from now on; NONE: not yet asked. */
        private final int[] costs = new int[MOST * (WAIT + 1)];
        private int person;
        private int size;
        private int redeemed;
        int leastPaid;

        Redeeming(Street street) {
            this.street = street;
        }

        boolean plan(int somebody) {
            person = somebody;
            redeemed = 0;
            size = 0;
            int pawned = street.hoursThatAre(PAWNED, person);
            if (Integer.bitCount(pawned) > MOST) {
                return false;
            }
            for (int hour = 0; hour < HOURS; hour++) {
                if (Street.hasBit(pawned, hour) && size < MOST) {
                    hours[size] = hour;
                    size++;
                }
            }
            Arrays.fill(costs, NONE);
            leastPaid = NO_PLAN;
            search(0, 0, street.purses[person], 0);
            return leastPaid != NO_PLAN;
        }

        int hourAt(int i) {
            return i >= 0 && i < size ? bestRow[i] : NONE;
        }

        private void search(int depth, int day, int purse, int paid) {
            // A row that is met later must be cheaper, and none gets cheaper by going on.
            if (paid >= leastPaid) {
                return;
            }
            if (depth >= size) {
                leastPaid = paid;
                System.arraycopy(row, 0, bestRow, 0, size);
                return;
            }
            for (int i = 0; i < size; i++) {
                int when = Street.hasBit(redeemed, i) ? NONE : firstDayFor(i, day, purse);
                if (when != NONE) {
                    int cost = costs[i * (WAIT + 1) + when];
                    row[depth] = hours[i];
                    redeemed |= 1 << i;
                    search(depth + 1, when, purseOn(day, purse, when) - cost, paid + cost);
                    redeemed &= ~(1 << i);
                }
            }
        }

        private int firstDayFor(int i, int day, int purse) {
            for (int when = day; when <= WAIT; when++) {
                int at = i * (WAIT + 1) + when;
                if (costs[at] == NONE) {
                    costs[at] = street.ruled(COSTS, person, hours[i], street.terms[DAY] + when);
                }
                if (purseOn(day, purse, when) >= costs[at]) {
                    return when;
                }
            }
            return NONE;
        }

        /** A purse that has to wait is far below the greatest one, so no greatest one is looked at. */
        private int purseOn(int day, int purse, int when) {
            return purse + (when - day) * street.terms[INCOME];
        }
    }

    /** A sale: what the lots from one on can come to, by those who may not buy any more. */
    private static final class Market {
        private static final int SETS = 1 << PEOPLE;

        private final Street street;
        private final int[] most = new int[(LOTS + 1) * SETS];
        private final int[] buyers = new int[LOTS];

        Market(Street street) {
            this.street = street;
        }

        void settle() {
            for (int lot = LOTS - 1; lot >= 0; lot--) {
                for (int out = 0; out < 1 << street.people; out++) {
                    most[lot * SETS + out] = mostFrom(lot, out);
                }
            }
            int out = 0;
            for (int lot = 0; lot < LOTS; lot++) {
                buyers[lot] = firstBuyer(lot, out);
                out |= buyers[lot] == NO_BUYER ? 0 : 1 << buyers[lot];
            }
        }

        private int mostFrom(int lot, int out) {
            int best = most[(lot + 1) * SETS + out];
            for (int person = 0; person < street.people; person++) {
                best = Math.max(best, ifSold(lot, out, person));
            }
            return best;
        }

        /** NONE, if that one can't buy. */
        private int ifSold(int lot, int out, int person) {
            int bid = street.bids[person * LOTS + lot];
            if (bid == 0 || Street.hasBit(out, person)) {
                return NONE;
            }
            return bid + most[(lot + 1) * SETS + (out | 1 << person)];
        }

        private int firstBuyer(int lot, int out) {
            for (int person = 0; person < street.people; person++) {
                if (ifSold(lot, out, person) == most[lot * SETS + out]) {
                    return person;
                }
            }
            return NO_BUYER;
        }

        int total() {
            return most[0];
        }

        int buyerOf(int lot) {
            return buyers[lot];
        }

        int paymentFor(int lot) {
            int buyer = buyers[lot];
            if (buyer == NO_BUYER) {
                return 0;
            }
            int othersNow = most[0] - street.bids[buyer * LOTS + lot];
            return most[1 << buyer] - othersNow;
        }
    }

    /** Years by draws on paper, and what stood behind the latest ones. */
    private static final class Years {
        int people;
        final int[] purses = new int[PEOPLE];
        final int[] known = new int[PEOPLE];
        final int[] held = new int[PEOPLE];
        private long drawState;

        /** How many hours were pawned. */
        int live(Street paper, Log paperLog, int seed, int n) {
            drawState = seed;
            int pawned = 0;
            boolean goesOn = true;
            for (int day = 0; day < n && goesOn; day++) {
                int person = draw(paper.people);
                int hour = draw(HOURS);
                if (paper.holds(person, hour)) {
                    pawned += paper.tryPawn(person, hour, paperLog) == CANNOT ? 0 : 1;
                } else {
                    paper.tryRedeem(person, hour, paperLog);
                }
                goesOn = paper.tryNextDay(paperLog) != CANNOT;
            }
            keep(paper);
            return pawned;
        }

        private int draw(int below) {
            drawState = (drawState * 1103 + 12345) % 1_000_003;
            return below < 1 ? 0 : (int) (drawState % below);
        }

        private void keep(Street paper) {
            people = paper.people;
            for (int person = 0; person < people; person++) {
                purses[person] = paper.purses[person];
                known[person] = paper.knownWithout(person, 0);
                held[person] = paper.hoursThatAre(HELD, person);
            }
        }
    }
}
