import java.util.Arrays;

/** The republic in which two who agree must part, quarter by quarter, on a road of ten houses. */
public final class PartingMap {
    public static final int NONE = -1, BAD = -2, NOT = -3, FULL = -4;

    private static final int QUARTERS = 16, HOUSES = 10, ROOM = 8, QUESTIONS = 3;
    private static final int MINDS = 8, SORTS = 3, KINDS = 4, KIND_HOLIDAY = 3;
    private static final int STEADY = 0, TALKER = 1, VIEWLESS = 2;
    private static final int TEXT_ROOM = 31, BYTES_EACH = 4;
    private static final int SHEETS = 4, FORMS = 3, FORM_BYTES = 0, FORM_SHORTS = 1, LOST = -1, SHEET_ROOM = 60;
    private static final int NULL = 1, INDEX = 2, CAST = 3, STORE = 4, SIZE = 5;
    private static final int ALL_EVENTS = 255, SUBSETS = 256, SIXTEENTHS = 16;
    private static final int LEAST_INT = 0x80000000;
    private static final long LEAST_LONG = 0x8000000000000000L;

    private final Text text = new Text();
    private final Triples events = new Triples();
    private final Triples sights = new Triples();
    private final Course told = new Course();
    private final Course trial = new Course();
    private final Choice choice = new Choice();
    private final Row[] rows = new Row[SHEETS];
    private final int[] tally = new int[QUARTERS * HOUSES];
    private final int[] moversBySubset = new int[SUBSETS];
    private boolean subsetsKnown;
    private int finding;

    public PartingMap() {
        for (int s = 0; s < SHEETS; s++) {
            rows[s] = new Row();
        }
    }

    // ---- people, events

    public int type(int b) {
        if (b < 0 || b > 255) {
            return BAD;
        }
        if (text.length >= TEXT_ROOM) {
            return FULL;
        }
        text.bytes[text.length] = b;
        text.length++;
        retell();
        return text.length;
    }

    public int wipe() {
        int had = text.length;
        text.length = 0;
        retell();
        return had;
    }

    public int undo() {
        if (text.length == 0) {
            return NOT;
        }
        text.length--;
        retell();
        return text.length;
    }

    public int fault() {
        return text.faultPlace;
    }

    public int person(int person, int what) {
        if (!isPerson(person) || !isBelow(what, 3)) {
            return BAD;
        }
        if (what == 0) {
            return text.sorts[person];
        }
        return what == 1 ? text.views[person] : text.homes[person];
    }

    public int event(int kind, int quarter, int person) {
        if (!mayBeEvent(kind, quarter, person)) {
            return BAD;
        }
        if (events.number >= ROOM) {
            return FULL;
        }
        events.append(kind, quarter, person);
        retell();
        return events.number;
    }

    public int back() {
        if (events.number == 0) {
            return NOT;
        }
        events.number--;
        retell();
        return events.number;
    }

    public int read(int s) {
        if (!isBelow(s, SHEETS)) {
            return BAD;
        }
        Row row = rows[s];
        if (row.form == LOST) {
            return found(NULL);
        }
        int came = 0;
        for (int i = 0; i + 2 < row.size && events.number < ROOM; i += 3) {
            if (!mayBeEvent(row.items[i], row.items[i + 1], row.items[i + 2])) {
                break;
            }
            events.append(row.items[i], row.items[i + 1], row.items[i + 2]);
            came++;
        }
        retell();
        return came;
    }

    // ---- quarters

    public int at(int quarter, int person, int what) {
        if (!isBelow(quarter, QUARTERS) || !isPerson(person) || !isBelow(what, 4)) {
            return BAD;
        }
        switch (what) {
            case 0:
                return told.homeBehind(quarter, person);
            case 1:
                return told.viewsBehind(quarter, person);
            case 2:
                return told.movedBehind(quarter, person);
            default:
                return told.cameBehind(quarter, person);
        }
    }

    public int house(int quarter, int house) {
        if (!isBelow(quarter, QUARTERS) || !isBelow(house, HOUSES)) {
            return BAD;
        }
        for (int p = 0; p < told.people; p++) {
            if (told.homeBehind(quarter, p) == house) {
                return p;
            }
        }
        return NONE;
    }

    public int pairs(int quarter, int what) {
        if (!isBelow(quarter, QUARTERS) || !isBelow(what, 2)) {
            return BAD;
        }
        int number = 0;
        for (int p = 0; p < told.people; p++) {
            for (int other = p + 1; other < told.people; other++) {
                if (told.agreeBehind(quarter, p, other) && (what == 0 || told.nearBehind(quarter, p, other))) {
                    number++;
                }
            }
        }
        return number;
    }

    public int bored(int person) {
        if (!isPerson(person)) {
            return BAD;
        }
        int number = 0;
        for (int quarter = 0; quarter < QUARTERS; quarter++) {
            boolean alone = true;
            for (int other = 0; other < told.people; other++) {
                alone = alone && !told.nearBehind(quarter, person, other);
            }
            number += alone ? 1 : 0;
        }
        return number;
    }

    public int sum(int what) {
        if (!isBelow(what, 3)) {
            return BAD;
        }
        if (what == 0) {
            return told.moves;
        }
        return what == 1 ? told.tragedies : told.far;
    }

    public int first(int what) {
        if (!isBelow(what, 2)) {
            return BAD;
        }
        return what == 0 ? told.firstQuarter : told.firstPerson;
    }

    public int rooted() {
        return ((1 << told.people) - 1) & ~told.movers;
    }

    public int friends(int person) {
        if (!isPerson(person)) {
            return BAD;
        }
        int bits = 0;
        for (int other = 0; other < told.people; other++) {
            if (other != person && told.agreeBehind(QUARTERS - 1, person, other)) {
                bits |= 1 << other;
            }
        }
        return bits;
    }

    // ---- plans

    public int settle(int person, int what) {
        if (!isPerson(person) || !isBelow(what, 2)) {
            return BAD;
        }
        choice.clear();
        for (int house = 0; house < HOUSES; house++) {
            if (!text.isFreeFor(person, house)) {
                continue;
            }
            trial.load(text, events, ALL_EVENTS);
            trial.homes[person] = house;
            trial.run();
            choice.offer(house, trial.moves);
        }
        return what == 0 ? choice.which : choice.fewest;
    }

    public int think(int person, int what) {
        if (!isPerson(person) || !isBelow(what, 2)) {
            return BAD;
        }
        choice.clear();
        for (int question = 0; question < QUESTIONS; question++) {
            trial.load(text, events, ALL_EVENTS);
            trial.plan(question, 0, person);
            trial.run();
            choice.offer(question, trial.moves);
        }
        return what == 0 ? choice.which : choice.fewest;
    }

    public int rest(int what) {
        if (!isBelow(what, 2)) {
            return BAD;
        }
        choice.clear();
        for (int quarter = 0; quarter < QUARTERS; quarter++) {
            trial.load(text, events, ALL_EVENTS);
            trial.plan(KIND_HOLIDAY, quarter, 0);
            trial.run();
            choice.offer(quarter, trial.moves);
        }
        return what == 0 ? choice.which : choice.fewest;
    }

    public int spare(int i) {
        if (i < NONE || i > 1) {
            return BAD;
        }
        int spared = told.tragedies == 0 ? 0 : NONE;
        for (int e = 0; e < events.number && spared == NONE; e++) {
            spared = endsWellWithout(1 << e) ? 1 << e : NONE;
        }
        for (int e = 0; e < events.number; e++) {
            for (int later = e + 1; later < events.number && spared == NONE; later++) {
                int both = 1 << e | 1 << later;
                spared = endsWellWithout(both) ? both : NONE;
            }
        }
        if (spared == NONE) {
            return NONE;
        }
        return i == NONE ? Integer.bitCount(spared) : placeOfBit(spared, i);
    }

    // ---- seen, chance, decades

    public int seen(int quarter, int person, int house) {
        if (!isBelow(quarter, QUARTERS) || !isBelow(person, ROOM) || !isBelow(house, HOUSES)) {
            return BAD;
        }
        if (sights.number >= ROOM) {
            return FULL;
        }
        sights.append(quarter, person, house);
        return sights.number;
    }

    public int forget() {
        int had = sights.number;
        sights.number = 0;
        return had;
    }

    public int never() {
        int bits = 0;
        for (int e = 0; e < events.number; e++) {
            trial.load(text, events, ALL_EVENTS & ~(1 << e));
            trial.run();
            bits |= trial.showsAll(sights) ? 1 << e : 0;
        }
        return bits;
    }

    public int was(int person, int what) {
        if (!isPerson(person) || !isBelow(what, 2)) {
            return BAD;
        }
        int bits = 0;
        for (int value = 0; value < (what == 0 ? MINDS : SORTS); value++) {
            trial.load(text, events, ALL_EVENTS);
            if (what == 0) {
                trial.views[person] = value;
            } else {
                trial.sorts[person] = value;
            }
            trial.run();
            bits |= trial.showsAll(sights) ? 1 << value : 0;
        }
        return bits;
    }

    public int ask(int person) {
        if (!isPerson(person)) {
            return BAD;
        }
        Arrays.fill(tally, 0);
        for (int mind = 0; mind < MINDS; mind++) {
            trial.load(text, events, ALL_EVENTS);
            trial.views[person] = mind;
            trial.run();
            if (trial.showsAll(sights)) {
                tallyHomes(person);
            }
        }
        return quarterOfLeastTally();
    }

    public long chance(int c, int person, int what) {
        if (c < 0 || c > SIXTEENTHS || !isPerson(person) || !isBelow(what, 2)) {
            return LEAST_LONG - BAD;
        }
        if (!subsetsKnown) {
            for (int subset = 0; subset < 1 << events.number; subset++) {
                trial.load(text, events, subset);
                trial.run();
                moversBySubset[subset] = trial.movers;
            }
            subsetsKnown = true;
        }
        long above = 0;
        for (int subset = 0; subset < 1 << events.number; subset++) {
            if (hasBit(moversBySubset[subset], person)) {
                int came = Integer.bitCount(subset);
                above += power(c, came) * power(SIXTEENTHS - c, events.number - came);
            }
        }
        long below = power(SIXTEENTHS, events.number);
        // What is below is 2 to the 4 events, so lowest terms need halving alone.
        for (int halved = 0; halved < 4 * events.number && (above & 1) == 0; halved++) {
            above >>= 1;
            below >>= 1;
        }
        return what == 0 ? above : below;
    }

    public int decades(int seed, int n, int what) {
        if (n < 0 || n > ROOM || !isBelow(what, 2)) {
            return BAD;
        }
        trial.load(text, events, 0);
        int state = seed;
        for (int e = 0; e < n && text.people > 0; e++) {
            state = nextSeed(state);
            int kind = lot(state, KINDS);
            state = nextSeed(state);
            int quarter = lot(state, QUARTERS);
            state = nextSeed(state);
            trial.plan(kind, quarter, lot(state, text.people));
        }
        trial.run();
        return what == 0 ? trial.moves : trial.tragedies;
    }

    // ---- sheets

    public int sheet(int s, int form, int n) {
        if (!isBelow(s, SHEETS) || !isBelow(form, FORMS) || n > SHEET_ROOM) {
            return BAD;
        }
        if (n < 0) {
            return found(SIZE);
        }
        Row row = rows[s];
        row.form = form;
        row.size = n;
        Arrays.fill(row.items, 0);
        return n;
    }

    public int lose(int s) {
        if (!isBelow(s, SHEETS)) {
            return BAD;
        }
        Row row = rows[s];
        if (row.form == LOST) {
            return found(NULL);
        }
        row.form = LOST;
        return row.size;
    }

    public int lay(int s, int form, int i, int v) {
        if (!isBelow(s, SHEETS) || !isBelow(form, FORMS)) {
            return BAD;
        }
        Row row = rows[s];
        int trouble = row.troubleWith(form, i);
        if (trouble != 0) {
            return found(trouble);
        }
        row.put(i, v);
        return 1;
    }

    public int get(int s, int form, int i) {
        if (!isBelow(s, SHEETS) || !isBelow(form, FORMS)) {
            return LEAST_INT;
        }
        Row row = rows[s];
        int trouble = row.troubleWith(form, i);
        if (trouble != 0) {
            finding = trouble;
            return LEAST_INT;
        }
        return row.items[i];
    }

    public int copy(int s, int i, int t, int j, int n) {
        if (!isBelow(s, SHEETS) || !isBelow(t, SHEETS)) {
            return BAD;
        }
        Row from = rows[s];
        Row to = rows[t];
        if (from.form == LOST || to.form == LOST) {
            return found(NULL);
        }
        if (from.form != to.form) {
            return found(STORE);
        }
        if (!from.hasStretch(i, n) || !to.hasStretch(j, n)) {
            return found(INDEX);
        }
        System.arraycopy(from.items, i, to.items, j, n);
        return 1;
    }

    public int write(int person, int s) {
        if (!isPerson(person) || !isBelow(s, SHEETS)) {
            return BAD;
        }
        Row row = rows[s];
        if (row.form == LOST) {
            return found(NULL);
        }
        int number = Math.min(row.size, QUARTERS);
        for (int quarter = 0; quarter < number; quarter++) {
            row.put(quarter, told.homeBehind(quarter, person));
        }
        return number;
    }

    public int count(int what) {
        switch (what) {
            case 0:
                return text.people;
            case 1:
                return text.length;
            case 2:
                return events.number;
            case 3:
            case 4:
            case 5:
                return sum(what - 3);
            case 6:
                return Integer.bitCount(rooted());
            case 7:
                return sights.number;
            case 8:
                return finding;
            default:
                return BAD;
        }
    }

    public long digest() {
        long h = 17;
        for (int what = 0; what <= 7; what++) {
            h = 31 * h + count(what);
        }
        h = 31 * h + fault();
        for (int p = 0; p < text.people; p++) {
            h = digestOfPerson(h, p);
        }
        for (int quarter = 0; quarter < QUARTERS; quarter++) {
            h = 31 * h + pairs(quarter, 0);
            h = 31 * h + pairs(quarter, 1);
        }
        for (int house = 0; house < HOUSES; house++) {
            h = 31 * h + house(7, house);
            h = 31 * h + house(15, house);
        }
        h = 31 * h + first(0);
        h = 31 * h + first(1);
        h = 31 * h + rest(0);
        h = 31 * h + rest(1);
        h = 31 * h + spare(NONE);
        h = 31 * h + spare(0);
        h = 31 * h + never();
        h = 31 * h + decades(7, 6, 0);
        return 31 * h + decades(7, 6, 1);
    }

    private long digestOfPerson(long before, int p) {
        long h = before;
        for (int what = 0; what < 3; what++) {
            h = 31 * h + person(p, what);
        }
        for (int quarter = 0; quarter < QUARTERS; quarter += 5) {
            for (int what = 0; what < 4; what++) {
                h = 31 * h + at(quarter, p, what);
            }
        }
        h = 31 * h + bored(p);
        h = 31 * h + friends(p);
        h = 31 * h + settle(p, 0);
        h = 31 * h + settle(p, 1);
        h = 31 * h + think(p, 0);
        h = 31 * h + think(p, 1);
        h = 31 * h + was(p, 0);
        h = 31 * h + was(p, 1);
        h = 31 * h + ask(p);
        h = 31 * h + chance(5, p, 0);
        return 31 * h + chance(5, p, 1);
    }

    /** The told course always stands ready, so that the questions about quarters only look things up. */
    private void retell() {
        text.parse();
        told.load(text, events, ALL_EVENTS);
        told.run();
        subsetsKnown = false;
    }

    private int found(int number) {
        finding = number;
        return -10 - number;
    }

    private boolean isPerson(int person) {
        return isBelow(person, text.people);
    }

    private static boolean isBelow(int number, int bound) {
        return number >= 0 && number < bound;
    }

    private static boolean mayBeEvent(int kind, int quarter, int person) {
        return isBelow(kind, KINDS) && isBelow(quarter, QUARTERS) && isBelow(person, ROOM);
    }

    private static boolean hasBit(int bits, int place) {
        return (bits >> place & 1) != 0;
    }

    /** The place of the i-th bit that is set among the lowest eight; NONE. */
    private static int placeOfBit(int bits, int i) {
        int ahead = 0;
        for (int place = 0; place < ROOM; place++) {
            if (hasBit(bits, place)) {
                if (ahead == i) {
                    return place;
                }
                ahead++;
            }
        }
        return NONE;
    }

    private boolean endsWellWithout(int spared) {
        trial.load(text, events, ALL_EVENTS & ~spared);
        trial.run();
        return trial.tragedies == 0;
    }

    private void tallyHomes(int person) {
        for (int quarter = 0; quarter < QUARTERS; quarter++) {
            tally[quarter * HOUSES + trial.homeBehind(quarter, person)]++;
        }
    }

    private int quarterOfLeastTally() {
        int which = 0;
        int least = MINDS + 1;
        for (int quarter = 0; quarter < QUARTERS; quarter++) {
            int greatest = 0;
            for (int house = 0; house < HOUSES; house++) {
                greatest = Math.max(greatest, tally[quarter * HOUSES + house]);
            }
            if (greatest < least) {
                which = quarter;
                least = greatest;
            }
        }
        return which;
    }

    private static long power(long base, int exponent) {
        long product = 1;
        for (int i = 0; i < exponent; i++) {
            product *= base;
        }
        return product;
    }

    private static int nextSeed(int seed) {
        return 1103515245 * seed + 12345;
    }

    private static int lot(int seed, int m) {
        return m > 0 ? (seed >>> 16) % m : 0;
    }

    /** The people as a text; each takes three bytes and a parting sign, so a byte's place says what it must be. */
    private static final class Text {
        final int[] bytes = new int[TEXT_ROOM];
        final int[] sorts = new int[ROOM];
        final int[] views = new int[ROOM];
        final int[] homes = new int[ROOM];
        int length;
        int people;
        int faultPlace = NONE;

        void parse() {
            int taken = 0;
            faultPlace = NONE;
            for (int place = 0; place < length && faultPlace == NONE; place++) {
                int p = place / BYTES_EACH;
                int value = valueAt(place);
                boolean isHome = place % BYTES_EACH == 2;
                if (p >= ROOM || value == NONE || isHome && hasBit(taken, value)) {
                    faultPlace = place;
                } else if (isHome) {
                    homes[p] = value;
                    taken |= 1 << value;
                } else if (place % BYTES_EACH == 0) {
                    sorts[p] = value;
                } else if (place % BYTES_EACH == 1) {
                    views[p] = value;
                }
            }
            if (faultPlace == NONE && length > 0 && length % BYTES_EACH != BYTES_EACH - 1) {
                faultPlace = length;
            }
            people = faultPlace == NONE ? (length + 1) / BYTES_EACH : 0;
        }

        /** What the byte means at its place; NONE if it may not stand there. */
        private int valueAt(int place) {
            int b = bytes[place];
            switch (place % BYTES_EACH) {
                case 0:
                    return sortOf(b);
                case 1:
                    return b >= '0' && b <= '7' ? b - '0' : NONE;
                case 2:
                    return b >= '0' && b <= '9' ? b - '0' : NONE;
                default:
                    return b == ';' ? 0 : NONE;
            }
        }

        private static int sortOf(int b) {
            if (b == 's') {
                return STEADY;
            }
            if (b == 't') {
                return TALKER;
            }
            return b == 'n' ? VIEWLESS : NONE;
        }

        boolean isFreeFor(int person, int house) {
            for (int p = 0; p < people; p++) {
                if (p != person && homes[p] == house) {
                    return false;
                }
            }
            return true;
        }
    }

    /** Up to eight rows of three numbers: the events, and what was seen. */
    private static final class Triples {
        final int[] a = new int[ROOM];
        final int[] b = new int[ROOM];
        final int[] c = new int[ROOM];
        int number;

        void append(int first, int second, int third) {
            if (number < ROOM) {
                a[number] = first;
                b[number] = second;
                c[number] = third;
                number++;
            }
        }
    }

    /** Sixteen quarters; load, alter what is to be otherwise, run, and then look. */
    private static final class Course {
        private static final int HOLIDAY = 1 << 24;
        private static final int BITS_EACH = 3;

        final int[] sorts = new int[ROOM];
        final int[] views = new int[ROOM];
        final int[] homes = new int[ROOM];
        /** Of each quarter three bits a person, the views that change, and HOLIDAY. */
        final int[] plans = new int[QUARTERS];
        final int[] moved = new int[ROOM];
        final int[] came = new int[ROOM];
        /** Who lives in house h stands at h + 1: an empty place at either end spares looking for the road's ends. */
        final int[] who = new int[HOUSES + 2];
        /** House, views, moved and came of each person behind each quarter, in one number to keep the room small. */
        final int[] trace = new int[QUARTERS * ROOM];
        int people;
        int moves;
        int tragedies;
        int far;
        int firstQuarter = NONE;
        int firstPerson = NONE;
        int movers;

        void load(Text text, Triples events, int subset) {
            people = text.people;
            for (int p = 0; p < people; p++) {
                sorts[p] = text.sorts[p];
                views[p] = text.views[p];
                homes[p] = text.homes[p];
            }
            Arrays.fill(plans, 0);
            for (int e = 0; e < events.number; e++) {
                if (hasBit(subset, e)) {
                    plan(events.a[e], events.b[e], events.c[e]);
                }
            }
        }

        void plan(int kind, int quarter, int person) {
            if (kind == KIND_HOLIDAY) {
                plans[quarter] |= HOLIDAY;
            } else {
                plans[quarter] ^= 1 << (BITS_EACH * person + kind);
            }
        }

        void run() {
            begin();
            for (int quarter = 0; quarter < QUARTERS; quarter++) {
                changeMinds(plans[quarter]);
                comeRound();
                if ((plans[quarter] & HOLIDAY) == 0) {
                    knock(quarter);
                }
                keep(quarter);
            }
        }

        private void begin() {
            moves = 0;
            tragedies = 0;
            far = 0;
            firstQuarter = NONE;
            firstPerson = NONE;
            movers = 0;
            Arrays.fill(who, NONE);
            for (int p = 0; p < people; p++) {
                who[homes[p] + 1] = p;
                moved[p] = 0;
                came[p] = 0;
            }
        }

        private void changeMinds(int changes) {
            for (int p = 0; p < people; p++) {
                views[p] ^= changes >> (BITS_EACH * p) & (MINDS - 1);
            }
        }

        private void comeRound() {
            for (int p = 0; p < people; p++) {
                if (sorts[p] != TALKER) {
                    continue;
                }
                int differences = differences(p, who[homes[p]]);
                if (differences == 0) {
                    differences = differences(p, who[homes[p] + 2]);
                }
                if (differences != 0) {
                    views[p] ^= differences & -differences;
                    came[p]++;
                }
            }
        }

        private int differences(int p, int other) {
            return other == NONE || sorts[other] == VIEWLESS ? 0 : views[p] ^ views[other];
        }

        private void knock(int quarter) {
            for (int p = 0; p < people; p++) {
                if (!wouldAgree(p, homes[p])) {
                    continue;
                }
                int refuge = refuge(p);
                if (refuge == NONE) {
                    tragedies++;
                    continue;
                }
                if (moves == 0) {
                    firstQuarter = quarter;
                    firstPerson = p;
                }
                moves++;
                moved[p]++;
                movers |= 1 << p;
                far += Math.abs(refuge - homes[p]);
                who[homes[p] + 1] = NONE;
                who[refuge + 1] = p;
                homes[p] = refuge;
            }
        }

        /** The nearest house where that one may live; of like ones the less; NONE. */
        private int refuge(int p) {
            for (int way = 1; way < HOUSES; way++) {
                int less = homes[p] - way;
                if (less >= 0 && who[less + 1] == NONE && !wouldAgree(p, less)) {
                    return less;
                }
                int more = homes[p] + way;
                if (more < HOUSES && who[more + 1] == NONE && !wouldAgree(p, more)) {
                    return more;
                }
            }
            return NONE;
        }

        /** Whether that one, living in the house, would agree with anybody near but itself, who leaves if it moves. */
        private boolean wouldAgree(int p, int house) {
            if (sorts[p] == VIEWLESS) {
                return false;
            }
            for (int place = house; place <= house + 2; place += 2) {
                int other = who[place];
                if (other != NONE && other != p && sorts[other] != VIEWLESS && views[other] == views[p]) {
                    return true;
                }
            }
            return false;
        }

        private void keep(int quarter) {
            for (int p = 0; p < people; p++) {
                trace[quarter * ROOM + p] = homes[p] | views[p] << 4 | moved[p] << 7 | came[p] << 12;
            }
        }

        int homeBehind(int quarter, int p) {
            return trace[quarter * ROOM + p] & 15;
        }

        int viewsBehind(int quarter, int p) {
            return trace[quarter * ROOM + p] >> 4 & 7;
        }

        int movedBehind(int quarter, int p) {
            return trace[quarter * ROOM + p] >> 7 & 31;
        }

        int cameBehind(int quarter, int p) {
            return trace[quarter * ROOM + p] >> 12 & 31;
        }

        boolean agreeBehind(int quarter, int p, int other) {
            return sorts[p] != VIEWLESS && sorts[other] != VIEWLESS
                    && viewsBehind(quarter, p) == viewsBehind(quarter, other);
        }

        boolean nearBehind(int quarter, int p, int other) {
            return Math.abs(homeBehind(quarter, p) - homeBehind(quarter, other)) == 1;
        }

        boolean showsAll(Triples sights) {
            for (int i = 0; i < sights.number; i++) {
                if (sights.b[i] >= people || homeBehind(sights.a[i], sights.b[i]) != sights.c[i]) {
                    return false;
                }
            }
            return true;
        }
    }

    /** The candidate with the fewest moves among those offered; the least of like ones, if they come in order. */
    private static final class Choice {
        int which = NONE;
        int fewest;

        void clear() {
            which = NONE;
            fewest = 0;
        }

        void offer(int candidate, int moves) {
            if (which == NONE || moves < fewest) {
                which = candidate;
                fewest = moves;
            }
        }
    }

    /** A sheet; its room is made once, whatever form and size it gets. */
    private static final class Row {
        final int[] items = new int[SHEET_ROOM];
        int form = LOST;
        int size;

        /** The finding that hinders treating item i as of a form; 0 if there is none. */
        int troubleWith(int asForm, int i) {
            if (form == LOST) {
                return NULL;
            }
            if (form != asForm) {
                return CAST;
            }
            return isBelow(i, size) ? 0 : INDEX;
        }

        boolean hasStretch(int from, int n) {
            return from >= 0 && n >= 0 && from <= size - n;
        }

        void put(int i, int v) {
            if (form == FORM_BYTES) {
                items[i] = (byte) v;
            } else if (form == FORM_SHORTS) {
                items[i] = (short) v;
            } else {
                items[i] = v;
            }
        }
    }
}
