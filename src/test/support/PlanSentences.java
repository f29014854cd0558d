import java.util.Arrays;
import java.util.Random;

/** What one had better do: part 3, and promises 18 to 21. */
final class PlanSentences extends Sentences {
    /** Nobody agrees with anybody near; whoever comes to, as 0 by views 0, can't flee: 4 and 7 are near both views. */
    private static final String AT_PEACE = "s21;s00;s12;s03;s15;s06;s18;s09";
    /** As AT_PEACE, but 0 needs two changes, on questions 1 and 2, to come to views 0. */
    private static final String TWO_STEPS = "s61;s00;s12;s03;s15;s06;s18;s09";

    private static final int RANDOM_ROADS = 150;

    private PlanSentences() {
    }

    static void all() {
        settle();
        think();
        rest();
        spare();
        calls();
    }

    private static int[] withMore(int[] events, int kind, int quarter, int person) {
        int[] all = Arrays.copyOf(events, events.length + 3);
        all[events.length] = kind;
        all[events.length + 1] = quarter;
        all[events.length + 2] = person;
        return all;
    }

    /** The events but those whose numbers are set in the bits. */
    private static int[] without(int[] events, int bits) {
        int[] left = new int[0];
        for (int e = 0; 3 * e < events.length; e++) {
            if ((bits >> e & 1) == 0) {
                left = withMore(left, events[3 * e], events[3 * e + 1], events[3 * e + 2]);
            }
        }
        return left;
    }

    private static void dueSettle(String people, int person, int which, int moves, int... events) {
        PartingMap x = told(people, events);
        due(people + ": settle(" + person + ", 0)", x.settle(person, 0), which);
        due(people + ": settle(" + person + ", 1)", x.settle(person, 1), moves);
        int place = 4 * person + 2;
        int best = NONE;
        int fewest = MOST_INT;
        for (int house = 0; house <= 9; house++) {
            // A house that another one is told to have is a fault of the text.
            PartingMap y = told(people.substring(0, place) + house + people.substring(place + 1), events);
            if (y.fault() == NONE && y.sum(0) < fewest) {
                best = house;
                fewest = y.sum(0);
            }
        }
        due(people + ": which house, by words", best, which);
        due(people + ": how many moves, by words", fewest, moves);
    }

    private static void settle() {
        says("Terms", "SETTLE of a PERSON: the HOUSE as told, in place of its own, where no other one is told,"
                + " by which there are fewest MOVES in all, of like ones the least: which; how many.", () -> {
            dueSettle("s05", 0, 0, 0);
            dueSettle("s05;s06", 0, 0, 0);
            dueSettle("s05;s06", 1, 0, 0);
            dueSettle("s10;s25", 1, 1, 0);
            dueSettle("s01;s00;s02", 0, 4, 0);
            // Its own: with 3 there is one move, with 0 there are two, and 1 and 2 are told to others.
            dueSettle("s02;s03;s01", 1, 3, 1);
            dueSettle("s49;s15;s16", 0, 0, 1);
            dueSettle("s00;s01;s02;s03;s04;s05;s06;s07", 0, 9, 1);
            dueSettle(EIGHT, 7, 7, 0);
            dueSettle(EIGHT, 0, 0, 0);
            dueSettle(ALL_STUCK, 0, 0, 0);
            dueSettle(RESTLESS, 0, 6, 0);
            dueSettle("s05;s16", 0, 0, 0, 0, 15, 0);
            dueSettle("s11;s00", 0, 2, 0, 0, 15, 0);
            Random r = new Random(18);
            for (int n = 0; n < RANDOM_ROADS; n++) {
                String people = somePeople(r);
                int[] events = someEvents(r, 8);
                int person = r.nextInt((people.length() + 1) / 4);
                PartingMap x = told(people, events);
                dueSettle(people, person, x.settle(person, 0), x.settle(person, 1), events);
            }
        });
    }

    private static void dueThink(String people, int person, int which, int moves, int... events) {
        PartingMap x = told(people, events);
        due(people + ": think(" + person + ", 0)", x.think(person, 0), which);
        due(people + ": think(" + person + ", 1)", x.think(person, 1), moves);
        due(people + ": no event came", x.count(2), events.length / 3);
        int best = NONE;
        int fewest = MOST_INT;
        for (int question = 0; question <= 2; question++) {
            int otherwise = told(people, withMore(events, question, 0, person)).sum(0);
            if (otherwise < fewest) {
                best = question;
                fewest = otherwise;
            }
        }
        if (events.length < 24) {
            due(people + ": which question, by words", best, which);
            due(people + ": how many moves, by words", fewest, moves);
        }
    }

    private static void think() {
        says("Terms", "THINK of a PERSON: the question for a CHANGE more in QUARTER 0,"
                + " behind all EVENTS of it (whatever room),"
                + " by which there are fewest MOVES in all, of like ones the least: which; how many.", () -> {
            dueThink("s05", 0, 0, 0);
            dueThink("n05;s06", 0, 0, 0);
            dueThink("s05;s06", 0, 0, 0);
            dueThink("s05;s06", 1, 0, 0);
            dueThink("s05;s16", 0, 1, 0);
            dueThink("s05;s16;s24", 0, 2, 0);
            dueThink("s05;s16;s24", 0, 0, 0, 0, 0, 0);
            // There is a change, though all of them are worse than none.
            dueThink("s25;t03;s22", 0, 0, 2);
            dueThink("t07;s36;s39", 1, 2, 14);
            dueThink("s05;s16;s24", 0, 0, 0, 0, 0, 0, 3, 1, 0, 3, 2, 0, 3, 3, 0, 3, 4, 0, 3, 5, 0, 3, 6, 0, 3, 7, 0);
            dueThink("s05;s16;s24", 0, 2, 0, 3, 0, 0, 3, 1, 0, 3, 2, 0, 3, 3, 0, 3, 4, 0, 3, 5, 0, 3, 6, 0, 3, 7, 0);
            Random r = new Random(19);
            for (int n = 0; n < RANDOM_ROADS; n++) {
                String people = somePeople(r);
                int[] events = someEvents(r, 7);
                int person = r.nextInt((people.length() + 1) / 4);
                PartingMap x = told(people, events);
                dueThink(people, person, x.think(person, 0), x.think(person, 1), events);
            }
        });
    }

    private static void dueRest(String people, int which, int moves, int... events) {
        PartingMap x = told(people, events);
        due(people + ": rest(0)", x.rest(0), which);
        due(people + ": rest(1)", x.rest(1), moves);
        due(people + ": no event came", x.count(2), events.length / 3);
        int best = NONE;
        int fewest = MOST_INT;
        for (int quarter = 0; quarter <= 15; quarter++) {
            int otherwise = told(people, withMore(events, 3, quarter, 7)).sum(0);
            if (otherwise < fewest) {
                best = quarter;
                fewest = otherwise;
            }
        }
        if (events.length < 24) {
            due(people + ": which quarter, by words", best, which);
            due(people + ": how many moves, by words", fewest, moves);
        }
    }

    private static void rest() {
        says("Terms", "REST: the QUARTER for a HOLIDAY more, likewise: which; how many.", () -> {
            dueRest("", 0, 0);
            dueRest("s05", 0, 0);
            dueRest("s05;s06", 0, 1);
            dueRest("s05;s16", 15, 0, 0, 15, 0);
            dueRest("s05;s16", 6, 0, 0, 6, 0, 0, 7, 0);
            dueRest("s05;s06", 0, 0, 0, 1, 0);
            dueRest("s05;s16", 0, 0, 0, 15, 0, 3, 15, 0);
            dueRest("s05;s16", 6, 0, 0, 6, 0, 0, 7, 0, 1, 9, 1, 1, 9, 1, 1, 9, 1, 1, 9, 1, 1, 9, 1, 1, 9, 1);
            dueRest(ALL_STUCK, 0, 0);
            Random r = new Random(20);
            for (int n = 0; n < RANDOM_ROADS; n++) {
                String people = somePeople(r);
                int[] events = someEvents(r, 7);
                PartingMap x = told(people, events);
                dueRest(people, x.rest(0), x.rest(1), events);
            }
        });
    }

    /** The row by its words: the fewest, of like ones the least, such that the rest of the events make no tragedy. */
    private static void dueSpare(String people, int number, int first, int second, int... events) {
        PartingMap x = told(people, events);
        due(people + ": spare(-1)", x.spare(-1), number);
        due(people + ": spare(0)", x.spare(0), first);
        due(people + ": spare(1)", x.spare(1), second);
        int told = events.length / 3;
        int[] rows = new int[1 + told + told * (told - 1) / 2];
        int count = 1;
        for (int e = 0; e < told; e++) {
            rows[count++] = 1 << e;
        }
        for (int e = 0; e < told; e++) {
            for (int later = e + 1; later < told; later++) {
                rows[count++] = 1 << e | 1 << later;
            }
        }
        int bits = number == NONE ? NONE : (first == NONE ? 0 : 1 << first) | (second == NONE ? 0 : 1 << second);
        int found = NONE;
        for (int i = 0; i < count && found == NONE; i++) {
            found = told(people, without(events, rows[i])).sum(1) == 0 ? rows[i] : NONE;
        }
        due(people + ": the row, as bits", found, bits);
    }

    private static void spare() {
        says("Terms", "SPARE: the fewest EVENTS (0 to 2) that had better not be, so that there is no TRAGEDY,"
                + " of like ones the least row (each more than the one ahead): how many; the i-th; NONE.", () -> {
            dueSpare("", 0, NONE, NONE);
            dueSpare("", 0, NONE, NONE, 0, 0, 0);
            dueSpare(AT_PEACE, 0, NONE, NONE);
            dueSpare(ALL_STUCK, NONE, NONE, NONE);
            dueSpare(ALL_STUCK, NONE, NONE, NONE, 3, 0, 0, 3, 1, 0, 3, 2, 0);
            dueSpare(AT_PEACE, 1, 0, NONE, 1, 15, 0);
            dueSpare(AT_PEACE, 0, NONE, NONE, 1, 15, 0, 3, 15, 0);
            dueSpare(AT_PEACE, 1, 7, NONE, 3, 0, 0, 3, 1, 0, 3, 2, 0, 3, 3, 0, 3, 4, 0, 3, 5, 0, 3, 6, 0, 1, 15, 0);
            dueSpare(TWO_STEPS, 1, 1, NONE, 3, 0, 0, 1, 15, 0, 2, 15, 0);
            dueSpare(AT_PEACE, 2, 0, 1, 1, 14, 0, 0, 15, 3);
            dueSpare(AT_PEACE, 2, 6, 7, 3, 0, 0, 3, 1, 0, 3, 2, 0, 3, 3, 0, 3, 4, 0, 3, 5, 0, 1, 14, 0, 0, 15, 3);
            dueSpare(AT_PEACE, 2, 1, 4, 3, 0, 0, 1, 14, 0, 3, 2, 0, 3, 3, 0, 0, 15, 3, 3, 5, 0);
            // Three would have to go.
            dueSpare(AT_PEACE, NONE, NONE, NONE, 1, 15, 0, 0, 14, 3, 0, 15, 2);
            dueSpare(AT_PEACE, 2, 0, 1, 0, 14, 3, 0, 15, 2);
            // 0 and 7, though 1 and 2 would do as well, and 7 is more than either.
            dueSpare("s10;s09;s07;s18;s05;s13;s01;s16", 2, 0, 7, 0, 14, 7, 0, 15, 3, 0, 15, 1, 3, 13, 5, 0, 14, 7,
                    3, 13, 5, 0, 14, 4, 0, 13, 0);
            due("1 and 2 would do", told("s10;s09;s07;s18;s05;s13;s01;s16", 0, 14, 7, 3, 13, 5, 0, 14, 7, 3, 13, 5,
                    0, 14, 4, 0, 13, 0).sum(1), 0);
        });
    }

    private static void calls() {
        says("Promise 18", "SETTLE: which (what = 0), how many (1).", () -> {
            PartingMap x = told("s02;s03;s01");
            due("settle(1, 0)", x.settle(1, 0), 3);
            due("settle(1, 1)", x.settle(1, 1), 1);
            due("what was told stays", x.person(1, 2), 3);
        });
        says("Promise 18", "BAD.", () -> {
            PartingMap x = told("s05;s06");
            int[][] bad = {{-1, 0}, {2, 0}, {7, 0}, {8, 1}, {0, -1}, {1, 2}};
            for (int[] b : bad) {
                due("settle(" + b[0] + ", " + b[1] + ")", x.settle(b[0], b[1]), BAD);
            }
            for (int far : FAR_OFF) {
                due("settle(" + far + ", 0)", x.settle(far, 0), BAD);
                due("settle(0, " + far + ")", x.settle(0, far), BAD);
            }
            due("nobody", new PartingMap().settle(0, 0), BAD);
        });
        says("Promise 19", "THINK: which (what = 0), how many (1).", () -> {
            PartingMap x = told("t07;s36;s39");
            due("think(1, 0)", x.think(1, 0), 2);
            due("think(1, 1)", x.think(1, 1), 14);
            due("what was told stays", x.at(0, 1, 1), 3);
        });
        says("Promise 19", "BAD.", () -> {
            PartingMap x = told("s05;s06");
            int[][] bad = {{-1, 0}, {2, 0}, {7, 0}, {8, 1}, {0, -1}, {1, 2}};
            for (int[] b : bad) {
                due("think(" + b[0] + ", " + b[1] + ")", x.think(b[0], b[1]), BAD);
            }
            for (int far : FAR_OFF) {
                due("think(" + far + ", 0)", x.think(far, 0), BAD);
                due("think(0, " + far + ")", x.think(0, far), BAD);
            }
            due("nobody", new PartingMap().think(0, 0), BAD);
        });
        says("Promise 20", "REST: which (what = 0), how many (1).", () -> {
            PartingMap x = told("s05;s06;s11;s32", 1, 9, 2);
            due("rest(0)", x.rest(0), 0);
            due("rest(1)", x.rest(1), 2);
        });
        says("Promise 20", "BAD.", () -> {
            due("rest(-1)", told("s05;s06").rest(-1), BAD);
            due("rest(2)", told("s05;s06").rest(2), BAD);
            due("rest(2), nobody", new PartingMap().rest(2), BAD);
            for (int far : FAR_OFF) {
                due("rest(" + far + ")", told("s05;s06").rest(far), BAD);
            }
        });
        says("Promise 21", "SPARE: how many (i = NONE), the i-th (0, 1; NONE); NONE.", () -> {
            PartingMap one = told(AT_PEACE, 3, 0, 0, 1, 15, 0);
            due("one: spare(NONE)", one.spare(PartingMap.NONE), 1);
            due("one: spare(0)", one.spare(0), 1);
            due("one: there is no second", one.spare(1), NONE);
            PartingMap two = told(AT_PEACE, 3, 0, 0, 1, 14, 0, 0, 15, 3);
            due("two: spare(NONE)", two.spare(PartingMap.NONE), 2);
            due("two: spare(0)", two.spare(0), 1);
            due("two: spare(1)", two.spare(1), 2);
            PartingMap none = told(ALL_STUCK, 3, 0, 0);
            for (int i = -1; i <= 1; i++) {
                due("nothing helps: spare(" + i + ")", none.spare(i), NONE);
            }
        });
        says("Promise 21", "BAD.", () -> {
            for (PartingMap x : new PartingMap[] {new PartingMap(), told(ALL_STUCK), told(AT_PEACE, 1, 15, 0)}) {
                due("spare(-2)", x.spare(-2), BAD);
                due("spare(2)", x.spare(2), BAD);
                for (int far : FAR_OFF) {
                    due("spare(" + far + ")", x.spare(far), BAD);
                }
            }
        });
    }
}
