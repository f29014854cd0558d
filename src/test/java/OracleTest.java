import java.math.BigInteger;
import java.util.ArrayList;
import java.util.Arrays;
import java.util.HashMap;
import java.util.List;
import java.util.Map;
import java.util.Random;
import java.util.function.BiFunction;
import java.util.regex.Matcher;
import java.util.regex.Pattern;

/**
 * Random runs of calls, each answer held against a second reading of the document, which is written in another
 * way on purpose (regular expressions, lists, real Java arrays whose exceptions are the FINDINGS, BigInteger).
 * The seeds are fixed, so every run is the same.
 */
public final class OracleTest {
    private static int wrong;
    private static final Map<String, Integer> SEEN_ANSWERS = new HashMap<>();

    public static void main(String[] args) {
        int runs = args.length > 0 ? Integer.parseInt(args[0]) : 250;
        for (int run = 0; run < runs && wrong < 20; run++) {
            oneRun(run);
        }
        for (int run = 0; run < 3000 && wrong < 20; run++) {
            sparingRun(run);
        }
        demand("spare -1 0", "spare -1 1", "spare -1 2", "spare -1 -1", "spare 0 4", "spare 1 3", "spare 1 5", "settle 0 0", "think 0 1",
                "think 0 2", "rest 0 1", "rest 0 5", "ask 1", "ask 3", "never 0", "never 1", "was 1 5", "was 1 3");
        System.out.println(wrong == 0 ? "all answers are as the oracle's" : wrong + " answers are not the oracle's");
        if (wrong != 0) {
            System.exit(1);
        }
    }

    /** The runs must be rich enough that these answers came up at all. */
    private static void demand(String... keys) {
        for (String key : keys) {
            if (!SEEN_ANSWERS.containsKey(key)) {
                wrong++;
                System.out.println("no run had the answer: " + key);
            }
        }
    }

    private static void due(int run, List<String> told, String call, long got, long want) {
        told.add(call + " = " + want);
        if (got != want) {
            wrong++;
            System.out.println("run " + run + ": " + call + " answered " + got + ", due is " + want
                    + ", after " + told.subList(Math.max(0, told.size() - 60), told.size() - 1));
        }
    }

    private static void note(String key, long answer) {
        SEEN_ANSWERS.merge(key + " " + answer, 1, Integer::sum);
    }

    private static void oneRun(int run) {
        Random r = new Random(1000 + run);
        PartingMap x = new PartingMap();
        Oracle o = new Oracle();
        List<String> told = new ArrayList<>();
        int crowd = r.nextInt(3) == 0 ? 1 + r.nextInt(8) : 6 + r.nextInt(3);
        for (char b : someText(r, crowd).toCharArray()) {
            due(run, told, "type(" + (int) b + ")", x.type(b), o.type(b));
        }
        if (r.nextInt(4) > 0) {
            for (int n = r.nextInt(9); n > 0; n--) {
                int k = r.nextInt(4), q = r.nextInt(16), p = r.nextInt(8);
                due(run, told, "event(" + k + ", " + q + ", " + p + ")", x.event(k, q, p), o.event(k, q, p));
            }
        }
        // One step makes at most some forty calls, and nothing is promised behind the 512th.
        while (told.size() < 460) {
            oneCall(run, r, x, o, told, crowd);
        }
        due(run, told, "digest()", x.digest(), o.digest());
    }

    /** Tragedies that some events make and others don't are rare: full roads that are told well, and many events. */
    private static void sparingRun(int run) {
        Random r = new Random(500000 + run);
        PartingMap x = new PartingMap();
        Oracle o = new Oracle();
        List<String> told = new ArrayList<>();
        for (char b : someText(r, 7 + r.nextInt(2)).toCharArray()) {
            due(run, told, "type(" + (int) b + ")", x.type(b), o.type(b));
        }
        for (int n = 3 + r.nextInt(6); n > 0; n--) {
            int k = r.nextInt(4), q = r.nextInt(16), p = r.nextInt(8);
            due(run, told, "event(" + k + ", " + q + ", " + p + ")", x.event(k, q, p), o.event(k, q, p));
        }
        for (int i = -1; i <= 1; i++) {
            due(run, told, "spare(" + i + ")", x.spare(i), o.spare(i));
            note("spare " + i, o.spare(i));
        }
    }

    private static String someText(Random r, int crowd) {
        List<Integer> houses = new ArrayList<>();
        for (int h = 0; h < 10; h++) {
            houses.add(h);
        }
        java.util.Collections.shuffle(houses, r);
        int minds = 1 + r.nextInt(8);
        List<String> people = new ArrayList<>();
        for (int p = 0; p < crowd; p++) {
            people.add("" + "sstttn".charAt(r.nextInt(6)) + r.nextInt(minds) + houses.get(p));
        }
        return String.join(";", people);
    }

    /** Mostly within the bound, now and then just outside it or far off. */
    private static int around(Random r, int bound) {
        int dice = r.nextInt(24);
        if (dice == 0) {
            return -1;
        }
        if (dice == 1) {
            return bound;
        }
        if (dice == 2 && r.nextBoolean()) {
            return r.nextInt();
        }
        return r.nextInt(Math.max(bound, 1));
    }

    private static void oneCall(int run, Random r, PartingMap x, Oracle o, List<String> told, int crowd) {
        int dice = r.nextInt(62);
        if (dice < 36) {
            oneQuestion(run, r, x, o, told, dice, crowd);
        } else if (dice < 50) {
            oneSheetCall(run, r, x, o, told, dice);
        } else {
            oneChange(run, r, x, o, told, dice, crowd);
        }
    }

    private static void oneChange(int run, Random r, PartingMap x, Oracle o, List<String> told, int dice, int crowd) {
        int a, b, c;
        switch (dice) {
            case 50:
                // A fault is told and then mended, so that the people are there most of the time.
                a = "stn;0123456789 x".charAt(r.nextInt(16));
                due(run, told, "type(" + a + ")", x.type(a), o.type(a));
                due(run, told, "fault()", x.fault(), o.fault());
                due(run, told, "count(0)", x.count(0), o.count(0));
                due(run, told, "undo()", x.undo(), o.undo());
                break;
            case 51:
                a = around(r, 256);
                due(run, told, "type(" + a + ")", x.type(a), o.type(a));
                if (r.nextInt(4) > 0) {
                    due(run, told, "undo()", x.undo(), o.undo());
                }
                break;
            case 52:
                if (r.nextInt(3) == 0) {
                    due(run, told, "wipe()", x.wipe(), o.wipe());
                    for (char d : someText(r, crowd).toCharArray()) {
                        due(run, told, "type(" + (int) d + ")", x.type(d), o.type(d));
                    }
                }
                break;
            case 53:
            case 54:
            case 55:
                a = around(r, 4);
                b = around(r, 16);
                c = around(r, 8);
                due(run, told, "event(" + a + ", " + b + ", " + c + ")", x.event(a, b, c), o.event(a, b, c));
                break;
            case 56:
            case 57:
                due(run, told, "back()", x.back(), o.back());
                break;
            case 58:
                a = around(r, 16);
                b = around(r, crowd);
                c = r.nextInt(4) > 0 && o.at(a, b, 0) >= 0 ? o.at(a, b, 0) : around(r, 10);
                due(run, told, "seen(" + a + ", " + b + ", " + c + ")", x.seen(a, b, c), o.seen(a, b, c));
                break;
            case 59:
                due(run, told, "forget()", x.forget(), o.forget());
                break;
            case 60:
                if (r.nextInt(12) == 0) {
                    due(run, told, "digest()", x.digest(), o.digest());
                }
                break;
            default:
                due(run, told, "fault()", x.fault(), o.fault());
        }
    }

    private static void oneQuestion(int run, Random r, PartingMap x, Oracle o, List<String> told, int dice, int crowd) {
        int p = around(r, crowd), two = around(r, 2), q = around(r, 16), h = around(r, 10);
        switch (dice / 2) {
            case 0: {
                int what = around(r, 3);
                due(run, told, "person(" + p + ", " + what + ")", x.person(p, what), o.person(p, what));
                break;
            }
            case 1: {
                int what = around(r, 4);
                due(run, told, "at(" + q + ", " + p + ", " + what + ")", x.at(q, p, what), o.at(q, p, what));
                break;
            }
            case 2:
                due(run, told, "house(" + q + ", " + h + ")", x.house(q, h), o.house(q, h));
                break;
            case 3:
                due(run, told, "pairs(" + q + ", " + two + ")", x.pairs(q, two), o.pairs(q, two));
                break;
            case 4:
                due(run, told, "bored(" + p + ")", x.bored(p), o.bored(p));
                break;
            case 5: {
                int what = around(r, 3);
                due(run, told, "sum(" + what + ")", x.sum(what), o.sum(what));
                break;
            }
            case 6:
                due(run, told, "first(" + two + ")", x.first(two), o.first(two));
                break;
            case 7:
                due(run, told, "rooted()", x.rooted(), o.rooted());
                break;
            case 8:
                due(run, told, "friends(" + p + ")", x.friends(p), o.friends(p));
                break;
            case 9:
                due(run, told, "settle(" + p + ", " + two + ")", x.settle(p, two), o.settle(p, two));
                note("settle " + two, o.settle(p, two));
                break;
            case 10:
                due(run, told, "think(" + p + ", " + two + ")", x.think(p, two), o.think(p, two));
                note("think " + two, o.think(p, two));
                break;
            case 11:
                due(run, told, "rest(" + two + ")", x.rest(two), o.rest(two));
                note("rest " + two, o.rest(two));
                break;
            case 12: {
                int i = around(r, 2) - (r.nextInt(3) == 0 ? 1 : 0);
                due(run, told, "spare(" + i + ")", x.spare(i), o.spare(i));
                note("spare " + i, o.spare(i));
                break;
            }
            case 13:
                due(run, told, "never()", x.never(), o.never());
                note("never", o.never());
                break;
            case 14:
                due(run, told, "was(" + p + ", " + two + ")", x.was(p, two), o.was(p, two));
                note("was " + two, o.was(p, two));
                break;
            case 15:
                due(run, told, "ask(" + p + ")", x.ask(p), o.ask(p));
                note("ask", o.ask(p));
                break;
            case 16: {
                int c = around(r, 17);
                due(run, told, "chance(" + c + ", " + p + ", " + two + ")", x.chance(c, p, two), o.chance(c, p, two));
                break;
            }
            default: {
                int seed = r.nextBoolean() ? r.nextInt() : r.nextInt(20), n = around(r, 9);
                due(run, told, "decades(" + seed + ", " + n + ", " + two + ")", x.decades(seed, n, two),
                        o.decades(seed, n, two));
            }
        }
    }

    private static void oneSheetCall(int run, Random r, PartingMap x, Oracle o, List<String> told, int dice) {
        int s = around(r, 4), form = around(r, 3), i = around(r, 20), n = around(r, 61);
        switch (dice) {
            case 36:
                due(run, told, "sheet(" + s + ", " + form + ", " + n + ")", x.sheet(s, form, n), o.sheet(s, form, n));
                break;
            case 37:
                if (r.nextInt(3) == 0) {
                    due(run, told, "lose(" + s + ")", x.lose(s), o.lose(s));
                }
                break;
            case 38:
            case 39: {
                int v = r.nextBoolean() ? r.nextInt() : r.nextInt(16);
                if (r.nextInt(3) > 0) {
                    form = o.formOf(s, form);
                }
                due(run, told, "lay(" + s + ", " + form + ", " + i + ", " + v + ")", x.lay(s, form, i, v),
                        o.lay(s, form, i, v));
                break;
            }
            case 40:
            case 41:
                if (r.nextInt(3) > 0) {
                    form = o.formOf(s, form);
                }
                due(run, told, "get(" + s + ", " + form + ", " + i + ")", x.get(s, form, i), o.get(s, form, i));
                break;
            case 42:
            case 43: {
                int t = r.nextBoolean() ? s : around(r, 4), j = around(r, 20), many = around(r, 12);
                due(run, told, "copy(" + s + ", " + i + ", " + t + ", " + j + ", " + many + ")",
                        x.copy(s, i, t, j, many), o.copy(s, i, t, j, many));
                break;
            }
            case 44:
            case 45: {
                int p = around(r, 8);
                due(run, told, "write(" + p + ", " + s + ")", x.write(p, s), o.write(p, s));
                break;
            }
            case 46: {
                // A sheet of events, some of which may not be.
                int to = r.nextInt(4), of = r.nextInt(3), size = r.nextInt(20);
                due(run, told, "sheet(" + to + ", " + of + ", " + size + ")", x.sheet(to, of, size),
                        o.sheet(to, of, size));
                for (int k = 0; k < size; k++) {
                    int v = r.nextInt(k % 3 == 0 ? 4 : k % 3 == 1 ? 16 : 8) - (r.nextInt(30) == 0 ? 20 : 0);
                    due(run, told, "lay(" + to + ", " + of + ", " + k + ", " + v + ")", x.lay(to, of, k, v),
                            o.lay(to, of, k, v));
                }
                due(run, told, "read(" + to + ")", x.read(to), o.read(to));
                break;
            }
            case 47:
                due(run, told, "read(" + s + ")", x.read(s), o.read(s));
                break;
            default: {
                int what = around(r, 9);
                due(run, told, "count(" + what + ")", x.count(what), o.count(what));
            }
        }
    }

    /** One who lives on the road. */
    private static final class Soul {
        char sort;
        int views;
        int house;
        int moved;
        int came;

        Soul(char sort, int views, int house) {
            this.sort = sort;
            this.views = views;
            this.house = house;
        }

        Soul twin() {
            Soul s = new Soul(sort, views, house);
            s.moved = moved;
            s.came = came;
            return s;
        }
    }

    /** What came of it all. */
    private static final class History {
        final List<List<Soul>> behind = new ArrayList<>();
        final List<int[]> moves = new ArrayList<>();
        int tragedies;
    }

    private static final class Oracle {
        private static final Pattern PEOPLE = Pattern.compile("([stn][0-7][0-9](;[stn][0-7][0-9]){0,7})?");
        private final StringBuilder text = new StringBuilder();
        private final List<int[]> events = new ArrayList<>();
        private final List<int[]> seen = new ArrayList<>();
        private final Object[] sheets = new Object[4];
        private int finding;
        private History told;

        int type(int b) {
            if (b != (b & 255)) {
                return -2;
            }
            if (text.length() == 31) {
                return -4;
            }
            text.append((char) b);
            told = null;
            return text.length();
        }

        int wipe() {
            int n = text.length();
            text.setLength(0);
            told = null;
            return n;
        }

        int undo() {
            if (text.length() == 0) {
                return -3;
            }
            text.setLength(text.length() - 1);
            told = null;
            return text.length();
        }

        private static boolean goesOn(String start) {
            Matcher m = PEOPLE.matcher(start);
            if (!m.matches() && !m.hitEnd()) {
                return false;
            }
            String houses = "";
            for (int k = 2; k < start.length(); k += 4) {
                if (houses.indexOf(start.charAt(k)) >= 0) {
                    return false;
                }
                houses += start.charAt(k);
            }
            return true;
        }

        int fault() {
            for (int k = 0; k < text.length(); k++) {
                if (!goesOn(text.substring(0, k + 1))) {
                    return k;
                }
            }
            return PEOPLE.matcher(text).matches() ? -1 : text.length();
        }

        private List<Soul> people() {
            List<Soul> all = new ArrayList<>();
            if (fault() == -1 && text.length() > 0) {
                for (String one : text.toString().split(";")) {
                    all.add(new Soul(one.charAt(0), one.charAt(1) - '0', one.charAt(2) - '0'));
                }
            }
            return all;
        }

        private boolean there(int person) {
            return person >= 0 && person < people().size();
        }

        int person(int person, int what) {
            if (!there(person) || what < 0 || what > 2) {
                return -2;
            }
            Soul s = people().get(person);
            return new int[] {"stn".indexOf(s.sort), s.views, s.house}[what];
        }

        private static boolean mayBe(int kind, int quarter, int person) {
            return kind >= 0 && kind <= 3 && quarter >= 0 && quarter <= 15 && person >= 0 && person <= 7;
        }

        int event(int kind, int quarter, int person) {
            if (!mayBe(kind, quarter, person)) {
                return -2;
            }
            if (events.size() == 8) {
                return -4;
            }
            events.add(new int[] {kind, quarter, person});
            told = null;
            return events.size();
        }

        int back() {
            if (events.isEmpty()) {
                return -3;
            }
            events.remove(events.size() - 1);
            told = null;
            return events.size();
        }

        int read(int s) {
            if (s < 0 || s > 3) {
                return -2;
            }
            if (sheets[s] == null) {
                return find(1);
            }
            int came = 0;
            for (int i = 0; i + 3 <= java.lang.reflect.Array.getLength(sheets[s]); i += 3) {
                int[] e = {item(sheets[s], i), item(sheets[s], i + 1), item(sheets[s], i + 2)};
                if (!mayBe(e[0], e[1], e[2]) || events.size() >= 8) {
                    break;
                }
                events.add(e);
                came++;
            }
            told = null;
            return came;
        }

        private static boolean near(Soul a, Soul b) {
            return a.house == b.house + 1 || b.house == a.house + 1;
        }

        private static boolean agree(Soul a, Soul b) {
            return a.sort != 'n' && b.sort != 'n' && a.views == b.views;
        }

        private static Soul in(List<Soul> all, int house) {
            for (Soul s : all) {
                if (s.house == house) {
                    return s;
                }
            }
            return null;
        }

        private static History live(List<Soul> all, List<int[]> events) {
            History story = new History();
            for (int q = 0; q < 16; q++) {
                boolean holiday = false;
                for (int[] e : events) {
                    if (e[1] == q && e[0] == 3) {
                        holiday = true;
                    } else if (e[1] == q && e[2] < all.size()) {
                        all.get(e[2]).views ^= new int[] {1, 2, 4}[e[0]];
                    }
                }
                for (Soul s : all) {
                    if (s.sort == 't') {
                        talk(all, s);
                    }
                }
                if (!holiday) {
                    for (int p = 0; p < all.size(); p++) {
                        knock(story, all, p, q);
                    }
                }
                List<Soul> now = new ArrayList<>();
                for (Soul s : all) {
                    now.add(s.twin());
                }
                story.behind.add(now);
            }
            return story;
        }

        private static void talk(List<Soul> all, Soul s) {
            for (int house : new int[] {s.house - 1, s.house + 1}) {
                Soul other = in(all, house);
                if (other == null || other.sort == 'n' || other.views == s.views) {
                    continue;
                }
                for (int question = 1; question <= 4; question *= 2) {
                    if ((s.views & question) != (other.views & question)) {
                        s.views = s.views - (s.views & question) + (other.views & question);
                        s.came++;
                        return;
                    }
                }
            }
        }

        private static boolean quiet(List<Soul> all, Soul s, int house) {
            Soul there = new Soul(s.sort, s.views, house);
            for (Soul other : all) {
                if (other != s && near(other, there) && agree(other, there)) {
                    return false;
                }
            }
            return true;
        }

        private static void knock(History story, List<Soul> all, int p, int q) {
            Soul s = all.get(p);
            if (quiet(all, s, s.house)) {
                return;
            }
            int best = -1;
            for (int h = 0; h <= 9; h++) {
                if (in(all, h) == null && quiet(all, s, h)
                        && (best == -1 || Math.abs(h - s.house) < Math.abs(best - s.house))) {
                    best = h;
                }
            }
            if (best == -1) {
                story.tragedies++;
            } else {
                story.moves.add(new int[] {q, p, Math.abs(best - s.house)});
                s.house = best;
                s.moved++;
            }
        }

        private History told() {
            if (told == null) {
                told = live(people(), events);
            }
            return told;
        }

        int at(int quarter, int person, int what) {
            if (quarter < 0 || quarter > 15 || !there(person) || what < 0 || what > 3) {
                return -2;
            }
            Soul s = told().behind.get(quarter).get(person);
            return new int[] {s.house, s.views, s.moved, s.came}[what];
        }

        int house(int quarter, int house) {
            if (quarter < 0 || quarter > 15 || house < 0 || house > 9) {
                return -2;
            }
            List<Soul> all = told().behind.get(quarter);
            return all.indexOf(in(all, house));
        }

        int pairs(int quarter, int what) {
            if (quarter < 0 || quarter > 15 || what < 0 || what > 1) {
                return -2;
            }
            int twice = 0;
            for (Soul a : told().behind.get(quarter)) {
                for (Soul b : told().behind.get(quarter)) {
                    twice += a != b && agree(a, b) && (what == 0 || near(a, b)) ? 1 : 0;
                }
            }
            return twice / 2;
        }

        int bored(int person) {
            if (!there(person)) {
                return -2;
            }
            int n = 0;
            for (List<Soul> all : told().behind) {
                int h = all.get(person).house;
                n += in(all, h - 1) == null && in(all, h + 1) == null ? 1 : 0;
            }
            return n;
        }

        int sum(int what) {
            if (what == 0) {
                return told().moves.size();
            }
            if (what == 1) {
                return told().tragedies;
            }
            return what == 2 ? told().moves.stream().mapToInt(m -> m[2]).sum() : -2;
        }

        int first(int what) {
            if (what < 0 || what > 1) {
                return -2;
            }
            return told().moves.isEmpty() ? -1 : told().moves.get(0)[what];
        }

        int rooted() {
            int bits = 0;
            for (int p = 0; p < people().size(); p++) {
                bits += told().behind.get(15).get(p).moved == 0 ? 1 << p : 0;
            }
            return bits;
        }

        int friends(int person) {
            if (!there(person)) {
                return -2;
            }
            List<Soul> all = told().behind.get(15);
            int bits = 0;
            for (Soul s : all) {
                bits += s != all.get(person) && agree(s, all.get(person)) ? 1 << all.indexOf(s) : 0;
            }
            return bits;
        }

        private int fewest(int from, int to, int what, BiFunction<List<Soul>, List<int[]>, Boolean>[] trials) {
            int which = -1, least = 1000;
            for (int k = from; k < to; k++) {
                List<Soul> all = people();
                List<int[]> es = new ArrayList<>(events);
                if (trials[k].apply(all, es)) {
                    int moves = live(all, es).moves.size();
                    if (moves < least) {
                        least = moves;
                        which = k;
                    }
                }
            }
            return what == 0 ? which : least;
        }

        @SuppressWarnings("unchecked")
        private static BiFunction<List<Soul>, List<int[]>, Boolean>[] row(int n) {
            return (BiFunction<List<Soul>, List<int[]>, Boolean>[]) new BiFunction<?, ?, ?>[n];
        }

        int settle(int person, int what) {
            if (!there(person) || what < 0 || what > 1) {
                return -2;
            }
            BiFunction<List<Soul>, List<int[]>, Boolean>[] trials = row(10);
            for (int h = 0; h < 10; h++) {
                int house = h;
                trials[h] = (all, es) -> {
                    Soul there = in(all, house);
                    boolean free = there == null || there == all.get(person);
                    all.get(person).house = house;
                    return free;
                };
            }
            return fewest(0, 10, what, trials);
        }

        int think(int person, int what) {
            if (!there(person) || what < 0 || what > 1) {
                return -2;
            }
            BiFunction<List<Soul>, List<int[]>, Boolean>[] trials = row(3);
            for (int k = 0; k < 3; k++) {
                int kind = k;
                trials[k] = (all, es) -> es.add(new int[] {kind, 0, person});
            }
            return fewest(0, 3, what, trials);
        }

        int rest(int what) {
            if (what < 0 || what > 1) {
                return -2;
            }
            BiFunction<List<Soul>, List<int[]>, Boolean>[] trials = row(16);
            for (int q = 0; q < 16; q++) {
                int quarter = q;
                trials[q] = (all, es) -> es.add(new int[] {3, quarter, 0});
            }
            return fewest(0, 16, what, trials);
        }

        private List<int[]> without(int... places) {
            List<int[]> es = new ArrayList<>();
            for (int k = 0; k < events.size(); k++) {
                int here = k;
                if (Arrays.stream(places).noneMatch(z -> z == here)) {
                    es.add(events.get(k));
                }
            }
            return es;
        }

        private int[] spared() {
            List<int[]> rows = new ArrayList<>();
            rows.add(new int[0]);
            for (int a = 0; a < events.size(); a++) {
                rows.add(new int[] {a});
            }
            for (int a = 0; a < events.size(); a++) {
                for (int b = a + 1; b < events.size(); b++) {
                    rows.add(new int[] {a, b});
                }
            }
            for (int[] row : rows) {
                if (live(people(), without(row)).tragedies == 0) {
                    return row;
                }
            }
            return null;
        }

        int spare(int i) {
            if (i < -1 || i > 1) {
                return -2;
            }
            int[] row = spared();
            if (row == null) {
                return -1;
            }
            return i == -1 ? row.length : i < row.length ? row[i] : -1;
        }

        int seen(int quarter, int person, int house) {
            if (quarter < 0 || quarter > 15 || person < 0 || person > 7 || house < 0 || house > 9) {
                return -2;
            }
            if (seen.size() == 8) {
                return -4;
            }
            seen.add(new int[] {quarter, person, house});
            return seen.size();
        }

        int forget() {
            int n = seen.size();
            seen.clear();
            return n;
        }

        private boolean fits(History story) {
            for (int[] s : seen) {
                List<Soul> all = story.behind.get(s[0]);
                if (in(all, s[2]) == null || all.indexOf(in(all, s[2])) != s[1]) {
                    return false;
                }
            }
            return true;
        }

        int never() {
            int bits = 0;
            for (int k = 0; k < events.size(); k++) {
                bits += fits(live(people(), without(k))) ? 1 << k : 0;
            }
            return bits;
        }

        private History otherwise(int person, int what, int value) {
            List<Soul> all = people();
            if (what == 0) {
                all.get(person).views = value;
            } else {
                all.get(person).sort = "stn".charAt(value);
            }
            return live(all, events);
        }

        int was(int person, int what) {
            if (!there(person) || what < 0 || what > 1) {
                return -2;
            }
            int bits = 0;
            for (int v = 0; v < (what == 0 ? 8 : 3); v++) {
                bits += fits(otherwise(person, what, v)) ? 1 << v : 0;
            }
            return bits;
        }

        int ask(int person) {
            if (!there(person)) {
                return -2;
            }
            List<History> stories = new ArrayList<>();
            for (int v = 0; v < 8; v++) {
                History story = otherwise(person, 0, v);
                if (fits(story)) {
                    stories.add(story);
                }
            }
            int which = -1, least = 99;
            for (int q = 0; q < 16; q++) {
                Map<Integer, Integer> houses = new HashMap<>();
                for (History story : stories) {
                    houses.merge(story.behind.get(q).get(person).house, 1, Integer::sum);
                }
                int greatest = houses.values().stream().mapToInt(z -> z).max().orElse(0);
                if (greatest < least) {
                    least = greatest;
                    which = q;
                }
            }
            return which;
        }

        private BigInteger weight(int c, int person, int k, List<int[]> chosen, BigInteger sofar) {
            if (k == events.size()) {
                return live(people(), chosen).behind.get(15).get(person).moved > 0 ? sofar : BigInteger.ZERO;
            }
            BigInteger without = weight(c, person, k + 1, chosen, sofar.multiply(BigInteger.valueOf(16 - c)));
            List<int[]> more = new ArrayList<>(chosen);
            more.add(events.get(k));
            return without.add(weight(c, person, k + 1, more, sofar.multiply(BigInteger.valueOf(c))));
        }

        long chance(int c, int person, int what) {
            if (c < 0 || c > 16 || !there(person) || what < 0 || what > 1) {
                return Long.MIN_VALUE + 2;
            }
            BigInteger above = weight(c, person, 0, new ArrayList<>(), BigInteger.ONE);
            BigInteger below = BigInteger.valueOf(16).pow(events.size());
            BigInteger common = above.gcd(below);
            return (what == 0 ? above : below).divide(common).longValueExact();
        }

        int decades(int seed, int n, int what) {
            if (n < 0 || n > 8 || what < 0 || what > 1) {
                return -2;
            }
            List<Soul> all = people();
            List<int[]> es = new ArrayList<>();
            long state = seed & 0xffffffffL;
            for (int k = 0; k < n && !all.isEmpty(); k++) {
                int[] e = new int[3];
                int[] bounds = {4, 16, all.size()};
                for (int z = 0; z < 3; z++) {
                    state = (1103515245L * state + 12345L) % (1L << 32);
                    e[z] = (int) (state / 65536 % bounds[z]);
                }
                es.add(e);
            }
            History story = live(all, es);
            return what == 0 ? story.moves.size() : story.tragedies;
        }

        private int find(int number) {
            finding = number;
            return -10 - number;
        }

        private static int item(Object sheet, int i) {
            return ((Number) java.lang.reflect.Array.get(sheet, i)).intValue();
        }

        private static int form(Object sheet) {
            return sheet instanceof byte[] ? 0 : sheet instanceof short[] ? 1 : 2;
        }

        int formOf(int s, int form) {
            return s >= 0 && s < 4 && sheets[s] != null ? form(sheets[s]) : form;
        }

        int sheet(int s, int form, int n) {
            if (s < 0 || s > 3 || form < 0 || form > 2 || n > 60) {
                return -2;
            }
            try {
                sheets[s] = form == 0 ? new byte[n] : form == 1 ? new short[n] : new int[n];
                return n;
            } catch (NegativeArraySizeException e) {
                return find(5);
            }
        }

        int lose(int s) {
            if (s < 0 || s > 3) {
                return -2;
            }
            if (sheets[s] == null) {
                return find(1);
            }
            int n = java.lang.reflect.Array.getLength(sheets[s]);
            sheets[s] = null;
            return n;
        }

        int lay(int s, int form, int i, int v) {
            if (s < 0 || s > 3 || form < 0 || form > 2) {
                return -2;
            }
            if (sheets[s] == null) {
                return find(1);
            }
            try {
                if (form == 0) {
                    ((byte[]) sheets[s])[i] = (byte) v;
                } else if (form == 1) {
                    ((short[]) sheets[s])[i] = (short) v;
                } else {
                    ((int[]) sheets[s])[i] = v;
                }
                return 1;
            } catch (ClassCastException e) {
                return find(3);
            } catch (ArrayIndexOutOfBoundsException e) {
                return find(2);
            }
        }

        int get(int s, int form, int i) {
            if (s < 0 || s > 3 || form < 0 || form > 2) {
                return Integer.MIN_VALUE;
            }
            if (sheets[s] == null) {
                find(1);
                return Integer.MIN_VALUE;
            }
            try {
                return form == 0 ? ((byte[]) sheets[s])[i] : form == 1 ? ((short[]) sheets[s])[i]
                        : ((int[]) sheets[s])[i];
            } catch (ClassCastException e) {
                find(3);
            } catch (ArrayIndexOutOfBoundsException e) {
                find(2);
            }
            return Integer.MIN_VALUE;
        }

        @SuppressWarnings("SuspiciousSystemArraycopy")
        int copy(int s, int i, int t, int j, int n) {
            if (s < 0 || s > 3 || t < 0 || t > 3) {
                return -2;
            }
            try {
                System.arraycopy(sheets[s], i, sheets[t], j, n);
                return 1;
            } catch (NullPointerException e) {
                return find(1);
            } catch (ArrayStoreException e) {
                return find(4);
            } catch (IndexOutOfBoundsException e) {
                return find(2);
            }
        }

        int write(int person, int s) {
            if (!there(person) || s < 0 || s > 3) {
                return -2;
            }
            if (sheets[s] == null) {
                return find(1);
            }
            int n = 0;
            while (n < 16 && n < java.lang.reflect.Array.getLength(sheets[s])) {
                lay(s, form(sheets[s]), n, at(n, person, 0));
                n++;
            }
            return n;
        }

        int count(int what) {
            if (what < 0 || what > 8) {
                return -2;
            }
            return new int[] {people().size(), text.length(), events.size(), sum(0), sum(1), sum(2),
                Integer.bitCount(rooted()), seen.size(), finding}[what];
        }

        long digest() {
            List<Long> all = new ArrayList<>();
            for (int what = 0; what <= 7; what++) {
                all.add((long) count(what));
            }
            all.add((long) fault());
            for (int p = 0; p < people().size(); p++) {
                for (int what = 0; what <= 2; what++) {
                    all.add((long) person(p, what));
                }
                for (int q : new int[] {0, 5, 10, 15}) {
                    for (int what = 0; what <= 3; what++) {
                        all.add((long) at(q, p, what));
                    }
                }
                for (int v : new int[] {bored(p), friends(p), settle(p, 0), settle(p, 1), think(p, 0), think(p, 1),
                    was(p, 0), was(p, 1), ask(p)}) {
                    all.add((long) v);
                }
                all.add(chance(5, p, 0));
                all.add(chance(5, p, 1));
            }
            for (int q = 0; q <= 15; q++) {
                all.add((long) pairs(q, 0));
                all.add((long) pairs(q, 1));
            }
            for (int h = 0; h <= 9; h++) {
                all.add((long) house(7, h));
                all.add((long) house(15, h));
            }
            for (int v : new int[] {first(0), first(1), rest(0), rest(1), spare(-1), spare(0), never(),
                decades(7, 6, 0), decades(7, 6, 1)}) {
                all.add((long) v);
            }
            long h = 17;
            for (long v : all) {
                h = 31 * h + v;
            }
            return h;
        }
    }
}
