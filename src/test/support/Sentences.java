import java.util.ArrayList;
import java.util.Collections;
import java.util.List;
import java.util.Objects;
import java.util.Random;
import java.util.function.Supplier;
import java.util.function.ToLongFunction;

/** What the document says, sentence by sentence, each with the test that would fail if it did not hold. */
abstract class Sentences {
    static final int NONE = -1, BAD = -2, NOT = -3, FULL = -4;
    static final int NULL = -11, INDEX = -12, CAST = -13, STORE = -14, SIZE = -15;
    static final int LEAST_INT = Integer.MIN_VALUE, MOST_INT = Integer.MAX_VALUE;
    static final int[] FAR_OFF = {LEAST_INT, MOST_INT, -256, 1000};
    static final long BAD_LONG = Long.MIN_VALUE + 2;
    /** Eight of eight minds in houses 0 to 7: nobody ever moves. */
    static final String EIGHT = "s00;s11;s22;s33;s44;s55;s66;s77";
    /** Houses 2 and 6 are free, but near those who agree with all: eight tragedies in each quarter. */
    static final String ALL_STUCK = "s00;s01;s03;s04;s05;s07;s08;s09";
    /** Person 0 is told by turns by the ones in houses 4 and 1, and flees by turns to houses 2 and 3. */
    static final String RESTLESS = "t23;s04;s21";

    /** In digest() of it hardly two neighbours are alike. */
    static final String BUSY = "t17;t29;t04;s21;s12;s05;t00;t23";
    static final int[] BUSY_EVENTS = {3, 7, 5, 1, 0, 1, 2, 0, 3, 2, 12, 0, 0, 1, 0, 0, 4, 7, 0, 5, 2};

    private static final List<String[]> QUOTES = new ArrayList<>();
    private static String section = "";
    private static String quote = "";
    private static int checks;
    private static int wrong;

    static void says(String where, String words, Runnable test) {
        section = where;
        quote = words;
        QUOTES.add(new String[] {where, words});
        int before = checks;
        try {
            test.run();
        } catch (RuntimeException | StackOverflowError e) {
            complain("it threw " + e);
        }
        if (checks == before) {
            complain("nothing is checked");
        }
    }

    static void due(String call, long got, long want) {
        checks++;
        if (got != want) {
            complain(call + " answered " + got + ", due is " + want);
        }
    }

    private static void complain(String fault) {
        wrong++;
        System.out.println(section + ", \"" + quote + "\": " + fault);
    }

    static void complainOfQuotes(String fault) {
        wrong++;
        System.out.println("the quotes: " + fault);
    }

    static List<String[]> quotes() {
        return QUOTES;
    }

    static int wrong() {
        return wrong;
    }

    static String summary() {
        return QUOTES.size() + " sentences, " + checks + " checks, " + wrong + " wrong";
    }

    /** A map of these people and events (kind, quarter and person of each). */
    static PartingMap told(String people, int... events) {
        PartingMap x = new PartingMap();
        tell(x, people);
        for (int e = 0; e + 2 < events.length; e += 3) {
            x.event(events[e], events[e + 1], events[e + 2]);
        }
        return x;
    }

    static void tell(PartingMap x, String people) {
        for (char b : people.toCharArray()) {
            x.type(b);
        }
    }

    /** Two to eight people of few minds. */
    static String somePeople(Random r) {
        List<Integer> houses = new ArrayList<>(List.of(0, 1, 2, 3, 4, 5, 6, 7, 8, 9));
        Collections.shuffle(houses, r);
        StringBuilder people = new StringBuilder();
        int minds = 1 + r.nextInt(8);
        for (int p = 2 + r.nextInt(7); p > 0; p--) {
            people.append("sssttn".charAt(r.nextInt(6))).append(r.nextInt(minds)).append(houses.get(p));
            people.append(p == 1 ? "" : ";");
        }
        return people.toString();
    }

    /** Events for told(), at most so many. */
    static int[] someEvents(Random r, int most) {
        int[] events = new int[3 * r.nextInt(most + 1)];
        for (int i = 0; i < events.length; i++) {
            events[i] = r.nextInt(i % 3 == 0 ? 4 : i % 3 == 1 ? 16 : 8);
        }
        return events;
    }

    /** A sheet of its form with these items. */
    static void lay(PartingMap x, int s, int form, int... items) {
        x.sheet(s, form, items.length);
        for (int i = 0; i < items.length; i++) {
            x.lay(s, form, i, items[i]);
        }
    }

    static void dueItems(PartingMap x, int s, int form, int... want) {
        for (int i = 0; i < want.length; i++) {
            due("item " + i + " of sheet " + s, x.get(s, form, i), want[i]);
        }
    }

    /** The call answers so, and but for the finding (0: it stays) what the object knows is as if it was never made. */
    static void refused(String call, Supplier<PartingMap> maker, ToLongFunction<PartingMap> act, long want,
            int finding) {
        PartingMap x = maker.get();
        PartingMap y = maker.get();
        due(call, act.applyAsLong(x), want);
        due(call + ": count(8) then", x.count(8), finding == 0 ? y.count(8) : finding);
        sameState(call, x, y);
    }

    /** What the object knows is as if the call was never made. */
    static void changesNothing(String call, Supplier<PartingMap> maker, ToLongFunction<PartingMap> act) {
        PartingMap x = maker.get();
        PartingMap y = maker.get();
        act.applyAsLong(x);
        due(call + ": count(8) then", x.count(8), y.count(8));
        sameState(call, x, y);
    }

    /** Both objects are used up by it. */
    static void sameState(String call, PartingMap x, PartingMap y) {
        checks++;
        List<Long> one = stateOf(x);
        List<Long> other = stateOf(y);
        if (!Objects.equals(one, other)) {
            complain(call + " changed something: " + one + " in place of " + other);
        }
    }

    /** All that an object knows but the latest finding; takes the object apart, with some 250 calls. */
    private static List<Long> stateOf(PartingMap x) {
        List<Long> all = new ArrayList<>();
        all.add(x.digest());
        for (int s = 0; s < 4; s++) {
            addSheet(x, s, all);
        }
        while (x.count(2) > 0) {
            all.add((long) x.back());
            all.add(x.digest());
        }
        all.add((long) x.forget());
        while (x.count(1) > 0) {
            all.add((long) x.undo());
            all.add((long) x.fault());
            all.add((long) x.count(0));
        }
        return all;
    }

    /** The makers' sheets have at most 17 items. */
    private static void addSheet(PartingMap x, int s, List<Long> all) {
        for (int form = 0; form < 3; form++) {
            x.get(s, form, -1);
            int finding = x.count(8);
            all.add((long) finding);
            for (int i = 0; finding == 2 && i < 18; i++) {
                all.add((long) x.get(s, form, i));
            }
        }
        all.add((long) x.lose(s));
    }
}
