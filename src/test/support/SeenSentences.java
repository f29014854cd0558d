import java.math.BigInteger;
import java.util.Random;
import java.util.stream.IntStream;

/** What was seen, chances and decades: part 4, fractions and lots, and promises 22 to 28. */
final class SeenSentences extends Sentences {
    /** By the first change 0 agrees with 1, by the second no more: it stays in 5, but without the second flees to 4. */
    private static final int[] THERE_AND_BACK = {0, 3, 0, 1, 3, 0};
    /** 5 agrees with nobody near; with views 1 it flees to 3, with views 2 to 7. */
    private static final String BETWEEN = "s05;s16;s24";

    private static final int RANDOM_ROADS = 250;

    private SeenSentences() {
    }

    static void all() {
        seen();
        never();
        thoughtAndSort();
        ask();
        chance();
        fractions();
        lots();
        decades();
        seenCalls();
        wasCalls();
        chanceCalls();
    }

    private static PartingMap seeing(PartingMap x, int... sights) {
        for (int i = 0; i + 2 < sights.length; i += 3) {
            x.seen(sights[i], sights[i + 1], sights[i + 2]);
        }
        return x;
    }

    /** At most two that are so. */
    private static int[] someSights(Random r, PartingMap x) {
        int[] sights = new int[3 * r.nextInt(3)];
        for (int i = 0; i < sights.length; i += 3) {
            sights[i] = r.nextInt(16);
            sights[i + 1] = r.nextInt(x.count(0));
            sights[i + 2] = x.at(sights[i], sights[i + 1], 0);
        }
        return sights;
    }

    private static void seen() {
        says("Terms", "SEEN, 8 at most:", () -> {
            PartingMap x = new PartingMap();
            for (int n = 1; n <= 8; n++) {
                due("seen", x.seen(0, 0, 0), n);
            }
            due("a ninth", x.seen(0, 0, 0), FULL);
            due("count(7)", x.count(7), 8);
        });
        says("Terms", "behind a QUARTER a PERSON (0 to 7; of one that there is not it never comes out so)"
                + " was in a HOUSE.", () -> {
            for (int p = -1; p <= 8; p++) {
                due("seen(0, " + p + ", 0)", new PartingMap().seen(0, p, 0), p >= 0 && p <= 7 ? 1 : BAD);
            }
            PartingMap x = seeing(told(BETWEEN, 3, 0, 0), 0, 2, 4);
            due("the last that there is", x.never(), 1);
            x = seeing(told(BETWEEN, 3, 0, 0), 0, 3, 0);
            due("one more: never()", x.never(), 0);
            due("one more: was(0, 0)", x.was(0, 0), 0);
            due("one more: was(0, 1)", x.was(0, 1), 0);
            tell(x, ";s70");
            due("now there is: never()", x.never(), 1);
            due("now there is: was(0, 0)", x.was(0, 0), 255);
            due("nobody is there", seeing(told("", 3, 0, 0), 0, 0, 0).never(), 0);
            due("the last of eight", seeing(told(EIGHT, 3, 0, 0), 15, 7, 7).never(), 1);
            due("in the last house", seeing(told("s09", 3, 0, 0), 15, 0, 9).never(), 1);
            due("in another house", seeing(told("s09", 3, 0, 0), 15, 0, 8).never(), 0);
            due("behind another quarter", seeing(told("s05;s16", 0, 3, 0, 3, 9, 0), 2, 0, 4).never(), 0);
            due("behind that quarter", seeing(told("s05;s16", 0, 3, 0, 3, 9, 0), 3, 0, 4).never(), 2);
        });
    }

    private static void never() {
        says("Terms", "NEVER: EVENTS each of which, had it alone not been, makes all that was SEEN come out so,"
                + " as bits.", () -> {
            due("no events", told("s05;s06").never(), 0);
            due("nothing seen", told("s05;s16", THERE_AND_BACK).never(), 3);
            due("without the second", seeing(told("s05;s16", THERE_AND_BACK), 3, 0, 4).never(), 2);
            due("without either", seeing(told("s05;s16", THERE_AND_BACK), 2, 0, 5).never(), 3);
            due("without the first", seeing(told("s05;s16", THERE_AND_BACK), 15, 0, 5).never(), 1);
            due("both that were seen", seeing(told("s05;s16", THERE_AND_BACK), 2, 0, 5, 3, 0, 4).never(), 2);
            due("one of two never", seeing(told("s05;s16", THERE_AND_BACK), 3, 0, 4, 2, 0, 4).never(), 0);
            due("one of two never, told first", seeing(told("s05;s16", THERE_AND_BACK), 2, 0, 4, 3, 0, 4).never(), 0);
            due("any one of three", seeing(told("s05;s16", 0, 3, 0, 1, 3, 0, 1, 3, 0), 15, 0, 5).never(), 7);
            due("the last of eight", seeing(told("s05;s16", 0, 3, 0, 3, 9, 0, 3, 9, 0, 3, 9, 0, 3, 9, 0, 3, 9, 0,
                    3, 9, 0, 1, 3, 0), 3, 0, 4).never(), 128);
            due("a holiday", seeing(told("s05;s06", 3, 0, 0, 3, 1, 0), 0, 0, 4).never(), 1);
            due("the eighth that was seen", seeing(told("s05;s16", 3, 0, 0), 0, 0, 5, 1, 0, 5, 2, 0, 5, 3, 0, 5,
                    4, 0, 5, 5, 0, 5, 6, 0, 5, 7, 0, 4).never(), 0);
        });
    }

    /** What may have been, by its words: each value in place of the person's byte in the text. */
    private static int byWords(String people, int place, String values, int[] events, int[] sights) {
        int bits = 0;
        for (int v = 0; v < values.length(); v++) {
            PartingMap y = told(people.substring(0, place) + values.charAt(v) + people.substring(place + 1), events);
            boolean so = true;
            for (int i = 0; i + 2 < sights.length; i += 3) {
                so = so && y.at(sights[i], sights[i + 1], 0) == sights[i + 2];
            }
            bits |= so ? 1 << v : 0;
        }
        return bits;
    }

    private static void dueWas(String people, int person, int thought, int sort, int[] events, int... sights) {
        PartingMap x = seeing(told(people, events), sights);
        due(people + ": was(" + person + ", 0)", x.was(person, 0), thought);
        due(people + ": was(" + person + ", 1)", x.was(person, 1), sort);
        due(people + ": thought, by words", byWords(people, 4 * person + 1, "01234567", events, sights), thought);
        due(people + ": sort, by words", byWords(people, 4 * person, "stn", events, sights), sort);
    }

    private static void thoughtAndSort() {
        int[] none = {};
        says("Terms", "THOUGHT of a PERSON: 0 to 7, the VIEWS as told, in place of its own, likewise, as bits.", () -> {
            dueWas("s05;s16", 0, 255, 7, none);
            dueWas("s05;s16", 0, 2, 2, none, 0, 0, 4);
            dueWas("s05;s76", 0, 128, 0, none, 0, 0, 4);
            dueWas("s15;s06", 0, 1, 2, none, 0, 0, 4);
            dueWas("s05;s16", 0, 253, 5, none, 15, 0, 5);
            // A talker in 6 would agree with 0, at whose door they knock first.
            dueWas("s05;s16", 1, 254, 5, none, 15, 0, 5);
            dueWas("s05;s16", 0, 0, 0, none, 15, 0, 5, 15, 0, 4);
            dueWas(BETWEEN, 0, 2, 0, none, 0, 0, 3);
            dueWas(BETWEEN, 0, 4, 2, none, 0, 0, 7);
            dueWas(EIGHT, 7, 191, 5, none, 15, 7, 7, 15, 6, 6);
            dueWas("s05;s16", 0, 1, 1, new int[] {0, 15, 0}, 14, 0, 5, 15, 0, 4);
        });
        says("Terms", "SORT of a PERSON: 0 s, 1 t, 2 n, in place of its own, likewise, as bits.", () -> {
            dueWas("s05;s06", 0, 1, 3, none, 0, 0, 4);
            dueWas("s05;s06", 0, 254, 4, none, 0, 0, 5);
            dueWas("n05;s06", 0, 255, 4, none, 0, 0, 5);
            // In quarter 0 views 0, 3 and 5 come round to 1, too.
            dueWas("t05;s16", 0, 1 + 2 + 8 + 32, 2, none, 0, 0, 4);
            dueWas("t05;n16", 0, 255, 7, none, 0, 0, 5);
            Random r = new Random(25);
            for (int n = 0; n < RANDOM_ROADS; n++) {
                String people = somePeople(r);
                int[] events = someEvents(r, 8);
                int person = r.nextInt((people.length() + 1) / 4);
                int[] sights = someSights(r, told(people, events));
                PartingMap x = seeing(told(people, events), sights);
                dueWas(people, person, x.was(person, 0), x.was(person, 1), events, sights);
            }
        });
    }

    private static void dueAsk(String people, int person, int want, int[] events, int... sights) {
        PartingMap x = seeing(told(people, events), sights);
        due(people + ": ask(" + person + ")", x.ask(person), want);
        int place = 4 * person + 1;
        int thought = byWords(people, place, "01234567", events, sights);
        int[][] inHouse = new int[16][10];
        for (int views = 0; views <= 7; views++) {
            PartingMap y = told(people.substring(0, place) + views + people.substring(place + 1), events);
            for (int q = 0; q <= 15 && (thought >> views & 1) != 0; q++) {
                inHouse[q][y.at(q, person, 0)]++;
            }
        }
        int best = NONE;
        int least = MOST_INT;
        for (int q = 0; q <= 15; q++) {
            int greatest = IntStream.of(inHouse[q]).max().orElse(0);
            if (greatest < least) {
                best = q;
                least = greatest;
            }
        }
        due(people + ": which quarter, by words", best, want);
    }

    private static void ask() {
        int[] none = {};
        says("Terms", "ASK of a PERSON: the QUARTER behind which the greatest number of those of THOUGHT by which it is"
                + " in the like HOUSE is least, of like ones the least.", () -> {
            dueAsk("s05", 0, 0, none);
            dueAsk(BETWEEN, 0, 0, none);
            dueAsk(BETWEEN, 0, 0, new int[] {2, 0, 0});
            dueAsk(BETWEEN, 0, 15, new int[] {2, 15, 0});
            dueAsk(BETWEEN, 0, 7, new int[] {2, 7, 0});
            dueAsk(BETWEEN, 0, 0, new int[] {2, 7, 0}, 15, 0, 5);
            dueAsk(BETWEEN, 0, 0, new int[] {2, 15, 0}, 0, 0, 6);
            dueAsk(BETWEEN, 0, 0, new int[] {2, 15, 0}, 0, 7, 0);
            dueAsk(BETWEEN, 1, 0, new int[] {0, 4, 0, 2, 9, 1});
            dueAsk(RESTLESS, 0, 0, none);
            dueAsk("n09;s05;s16;s24", 1, 11, new int[] {2, 11, 1});
            dueAsk("n09;n07;s05;s16;s24", 2, 3, new int[] {2, 3, 2, 2, 9, 2});
            // Behind quarter 0 all are at home, in the road's first or last house, behind quarter 1 all but one are.
            dueAsk("s05;s16", 0, 1, new int[] {3, 0, 0});
            dueAsk("s00;s11", 0, 1, new int[] {3, 0, 0});
            dueAsk("s09;s18", 0, 1, new int[] {3, 0, 0});
            dueAsk("s05;s06", 0, 15, new int[] {3, 14, 0, 0, 15, 1}, 13, 0, 5);
            Random r = new Random(26);
            for (int n = 0; n < RANDOM_ROADS; n++) {
                String people = somePeople(r);
                int[] events = someEvents(r, 8);
                int person = r.nextInt((people.length() + 1) / 4);
                int[] sights = someSights(r, told(people, events));
                dueAsk(people, person, seeing(told(people, events), sights).ask(person), events, sights);
            }
        });
    }

    private static void dueChance(PartingMap x, int c, int person, long above, long below) {
        due("chance(" + c + ", " + person + ", 0)", x.chance(c, person, 0), above);
        due("chance(" + c + ", " + person + ", 1)", x.chance(c, person, 1), below);
    }

    private static void chance() {
        says("Terms", "CHANCE: each of EVENTS is by c sixteenths (0 to 16), by itself:"
                + " the chance that a PERSON ever MOVES: a FRACTION.", () -> {
            PartingMap x = told("s05;s16", 0, 15, 0);
            dueChance(x, 0, 0, 0, 1);
            dueChance(x, 1, 0, 1, 16);
            dueChance(x, 15, 0, 15, 16);
            dueChance(x, 16, 0, 1, 1);
            dueChance(x, 15, 1, 0, 1);
            due("chance(-1, 0, 0)", x.chance(-1, 0, 0), BAD_LONG);
            due("chance(17, 0, 0)", x.chance(17, 0, 0), BAD_LONG);
            x.event(3, 15, 0);
            dueChance(x, 5, 0, 55, 256);
            dueChance(x, 16, 0, 0, 1);
            dueChance(x, 0, 0, 0, 1);
            dueChance(told("s05;s06"), 7, 0, 1, 1);
            dueChance(told("s05;s06"), 0, 1, 0, 1);
            dueChance(told("s05"), 16, 0, 0, 1);
            dueChance(told(ALL_STUCK), 5, 7, 0, 1);
            x = told("s05;s16", 0, 0, 0, 0, 1, 0, 0, 2, 0, 0, 3, 0, 0, 4, 0, 0, 5, 0, 0, 6, 0, 0, 7, 0);
            dueChance(x, 1, 0, 4294967296L - 2562890625L, 4294967296L);
            dueChance(x, 15, 0, 4294967295L, 4294967296L);
            dueChance(x, 8, 0, 255, 256);
            dueChance(x, 16, 0, 1, 1);
            dueChance(x, 0, 0, 0, 1);
            dueChance(x, 5, 1, 0, 1);
        });
    }

    private static void fractions() {
        says("Terms", "FRACTIONS are told in lowest terms, above and below (0 by 1).", () -> {
            int[][] lowest = {{0, 1}, {1, 16}, {1, 8}, {3, 16}, {1, 4}, {5, 16}, {3, 8}, {7, 16}, {1, 2}, {9, 16},
                {5, 8}, {11, 16}, {3, 4}, {13, 16}, {7, 8}, {15, 16}, {1, 1}};
            PartingMap x = told("s05;s16", 0, 3, 0);
            for (int c = 0; c <= 16; c++) {
                dueChance(x, c, 0, lowest[c][0], lowest[c][1]);
            }
            // Both together make it so, neither alone.
            x = told("s05;s36", 0, 3, 0, 1, 3, 0);
            for (int c = 0; c <= 16; c++) {
                BigInteger above = BigInteger.valueOf((long) c * c);
                BigInteger common = above.gcd(BigInteger.valueOf(256));
                dueChance(x, c, 0, above.divide(common).longValue(), 256 / common.longValue());
            }
            dueChance(x, 8, 1, 0, 1);
        });
    }

    /** A seed and the lots that it brings: a kind, a quarter, one of three people; worked out apart, with long numbers. */
    private static final int[][] LOTS = {{0, 0, 12, 0}, {1, 2, 14, 0}, {-1, 1, 9, 1}, {LEAST_INT, 0, 12, 1},
        {MOST_INT, 1, 9, 0}, {7, 0, 14, 2}, {8, 2, 0, 1}, {286434947, 3, 3, 1}, {230538014, 3, 9, 2},
        {1742513795, 1, 13, 1}, {-404969853, 1, 13, 2}, {632137347, 2, 6, 1}, {178408262, 1, 1, 0},
        {-1557226719, 2, 13, 0}, {2146736929, 0, 3, 0}, {1592806214, 3, 15, 1}};

    private static void lots() {
        says("Terms", "LOTS of m: SEED becomes 1103515245 SEED and 12345, as ints that wrap;"
                + " its upper 16 bits as a number from 0 on, modulo m.", () -> {
            for (String people : new String[] {RESTLESS, BETWEEN, "t07;s36;s39", "t12;s21;s33", "s05;s06;s28"}) {
                for (int[] lot : LOTS) {
                    PartingMap y = told(people, lot[1], lot[2], lot[3]);
                    due(people + ", seed " + lot[0] + ": moves", told(people).decades(lot[0], 1, 0), y.sum(0));
                }
            }
            // In each of these runs some states are below 0 as ints, and 7 people are no power of 2.
            for (int seed = -40; seed <= 40; seed++) {
                dueDecades("s30;t21;s32;n33;t75;s76;t08", seed * 53687091, 8);
            }
        });
    }

    /** The seed's events, worked out with long numbers, are told another map. */
    private static void dueDecades(String people, int seed, int n) {
        int number = (people.length() + 1) / 4;
        int[] events = new int[3 * n];
        long state = seed & 0xffffffffL;
        for (int i = 0; i < 3 * n; i++) {
            state = (1103515245L * state + 12345L) & 0xffffffffL;
            events[i] = (int) ((state >> 16) % new int[] {4, 16, number}[i % 3]);
        }
        PartingMap y = told(people, events);
        PartingMap x = told(people, 3, 0, 0, 0, 1, 1);
        due(people + ": decades(" + seed + ", " + n + ", 0)", x.decades(seed, n, 0), y.sum(0));
        due(people + ": decades(" + seed + ", " + n + ", 1)", x.decades(seed, n, 1), y.sum(1));
    }

    private static void decades() {
        says("Terms", "DECADES by a SEED: n EVENTS (0 to 8), in place of those told (none where there are no PEOPLE):"
                + " of each a LOT of 4 (its kind), a LOT of 16 (its QUARTER), a LOT of PEOPLE:"
                + " MOVES in all; TRAGEDIES in all.", () -> {
            for (int n = 0; n <= 8; n++) {
                for (int seed : new int[] {0, 7, -1, LEAST_INT, MOST_INT}) {
                    dueDecades("s05;s06;s12;t33", seed, n);
                    dueDecades("s30;t21;s32;n33;t75;s76;t08", seed, n);
                    dueDecades(ALL_STUCK, seed, n);
                    dueDecades("t05", seed, n);
                    due("nobody: moves", told("", 0, 0, 0).decades(seed, n, 0), 0);
                    due("nobody: tragedies", told("", 0, 0, 0).decades(seed, n, 1), 0);
                    due("a fault: moves", told("s05;s06;").decades(seed, n, 0), 0);
                }
            }
            PartingMap x = told("s05;s16", 0, 0, 0);
            due("none, in place of the one told", x.decades(7, 0, 0), 0);
            due("the one told stays", x.sum(0), 1);
            due("n -1", x.decades(7, -1, 0), BAD);
            due("n 9", x.decades(7, 9, 0), BAD);
            due("nobody, n 9", new PartingMap().decades(7, 9, 0), BAD);
            due("nobody, n -1", new PartingMap().decades(7, -1, 0), BAD);
        });
    }

    private static void seenCalls() {
        says("Promise 22", "SEEN more: how many.", () -> {
            PartingMap x = told("s05;s16", 0, 15, 0);
            due("seen(0, 0, 5)", x.seen(0, 0, 5), 1);
            due("seen(15, 0, 5)", x.seen(15, 0, 5), 2);
            due("they come out without the event", x.never(), 1);
            due("seen again", x.seen(15, 0, 4), 3);
            due("that does not", x.never(), 0);
        });
        says("Promise 22", "BAD; FULL.", () -> {
            int[][] bad = {{-1, 0, 0}, {16, 0, 0}, {0, -1, 0}, {0, 8, 0}, {0, 0, -1}, {0, 0, 10}};
            PartingMap x = new PartingMap();
            dueSeen(x, bad, BAD);
            for (int far : FAR_OFF) {
                dueSeen(x, new int[][] {{far, 0, 0}, {0, far, 0}, {0, 0, far}}, BAD);
            }
            due("nothing is seen", x.count(7), 0);
            dueSeen(x, new int[][] {{0, 0, 0}}, 1);
            dueSeen(x, new int[][] {{15, 7, 9}}, 2);
            seeing(x, 1, 1, 1, 1, 1, 1, 1, 1, 1, 1, 1, 1, 1, 1, 1, 1, 1, 1);
            dueSeen(x, bad, BAD);
            dueSeen(x, new int[][] {{0, 0, 0}, {15, 7, 9}}, FULL);
            due("eight are seen", x.count(7), 8);
        });
        says("Promise 23", "All SEEN are forgotten: how many.", () -> {
            for (int n = 0; n <= 8; n++) {
                PartingMap x = told("s05;s16", 3, 0, 0);
                for (int i = 0; i < n; i++) {
                    x.seen(0, 7, 0);
                }
                due("forget() of " + n, x.forget(), n);
                due("count(7)", x.count(7), 0);
                due("nothing is seen: never()", x.never(), 1);
                due("forget() again", x.forget(), 0);
                due("seen again", x.seen(0, 0, 5), 1);
                due("that alone", x.never(), 1);
            }
        });
        says("Promise 24", "NEVER, as bits.", () ->
                due("never()", seeing(told("s05;s16", THERE_AND_BACK), 3, 0, 4).never(), 2));
    }

    private static void dueSeen(PartingMap x, int[][] sights, int want) {
        for (int[] s : sights) {
            due("seen(" + s[0] + ", " + s[1] + ", " + s[2] + ")", x.seen(s[0], s[1], s[2]), want);
        }
    }

    private static void wasCalls() {
        says("Promise 25", "THOUGHT (what = 0), SORT (1), as bits.", () -> {
            PartingMap x = seeing(told("s05;s16"), 15, 0, 5);
            due("was(0, 0)", x.was(0, 0), 253);
            due("was(0, 1)", x.was(0, 1), 5);
            due("was(1, 0)", x.was(1, 0), 254);
        });
        says("Promise 25", "BAD.", () -> {
            PartingMap x = told("s05;s16");
            int[][] bad = {{-1, 0}, {2, 0}, {7, 0}, {8, 1}, {0, -1}, {1, 2}};
            for (int[] b : bad) {
                due("was(" + b[0] + ", " + b[1] + ")", x.was(b[0], b[1]), BAD);
            }
            for (int far : FAR_OFF) {
                due("was(" + far + ", 0)", x.was(far, 0), BAD);
                due("was(0, " + far + ")", x.was(0, far), BAD);
            }
            due("nobody", new PartingMap().was(0, 0), BAD);
        });
        says("Promise 26", "ASK.", () -> due("ask(0)", told(BETWEEN, 2, 7, 0).ask(0), 7));
        says("Promise 26", "BAD.", () -> {
            due("ask(-1)", told("s05;s16").ask(-1), BAD);
            due("ask(2)", told("s05;s16").ask(2), BAD);
            due("ask(8) of eight", told(EIGHT).ask(8), BAD);
            due("nobody", new PartingMap().ask(0), BAD);
            for (int far : FAR_OFF) {
                due("ask(" + far + ")", told("s05").ask(far), BAD);
            }
        });
    }

    private static void chanceCalls() {
        says("Promise 27", "CHANCE: above, below.", () -> {
            PartingMap x = told("s05;s16", 0, 3, 0);
            dueChance(x, 5, 0, 5, 16);
            x.event(1, 3, 0);
            dueChance(x, 5, 0, 55, 256);
            x.back();
            dueChance(x, 5, 0, 5, 16);
            tell(x, ";n07;s14");
            dueChance(x, 5, 0, 5, 16);
            x.undo();
            x.type('3');
            dueChance(x, 5, 3, 0, 1);
            x.wipe();
            tell(x, "s05;s06");
            dueChance(x, 5, 0, 1, 1);
            tell(x, ";s00;s11");
            lay(x, 0, 0, 0, 9, 2);
            x.read(0);
            dueChance(x, 5, 2, 5, 16);
        });
        says("Promise 27", "BAD.", () -> {
            PartingMap x = told("s05;s16", 0, 3, 0);
            int[][] bad = {{-1, 0, 0}, {17, 0, 0}, {0, -1, 0}, {0, 2, 0}, {16, 8, 0}, {0, 0, -1}, {16, 1, 2}};
            for (int[] b : bad) {
                due("chance(" + b[0] + ", " + b[1] + ", " + b[2] + ")", x.chance(b[0], b[1], b[2]), BAD_LONG);
            }
            for (int far : FAR_OFF) {
                due("chance(" + far + ", 0, 0)", x.chance(far, 0, 0), BAD_LONG);
                due("chance(0, " + far + ", 0)", x.chance(0, far, 0), BAD_LONG);
                due("chance(0, 0, " + far + ")", x.chance(0, 0, far), BAD_LONG);
            }
            due("nobody", new PartingMap().chance(5, 0, 0), BAD_LONG);
        });
        says("Promise 27", "(As the least long and x more.)", () ->
                due("chance(17, 0, 0)", told("s05").chance(17, 0, 0), -9223372036854775808L + 2));
        says("Promise 28", "DECADES: MOVES (what = 0), TRAGEDIES (1).", () -> {
            PartingMap x = told("s30;t21;s32;n33;t75;s76;t08");
            due("decades(7, 6, 0)", x.decades(7, 6, 0), 7);
            due("decades(7, 6, 1)", x.decades(7, 6, 1), 32);
            due("decades(8, 8, 0)", x.decades(8, 8, 0), 6);
        });
        says("Promise 28", "BAD.", () -> {
            PartingMap x = told("s05;s06");
            int[][] bad = {{0, -1, 0}, {0, 9, 0}, {0, 0, -1}, {0, 8, 2}};
            for (int[] b : bad) {
                due("decades(" + b[0] + ", " + b[1] + ", " + b[2] + ")", x.decades(b[0], b[1], b[2]), BAD);
            }
            for (int far : FAR_OFF) {
                due("any seed", x.decades(far, 0, 0), 1);
                due("decades(0, " + far + ", 0)", x.decades(0, far, 0), BAD);
                due("decades(0, 0, " + far + ")", x.decades(0, 0, far), BAD);
            }
        });
    }
}
