/** What happens in a quarter, and what is told of it: Terms, part 2, and promises 10 to 17. */
final class QuarterSentences extends Sentences {
    /** Houses 4 and 7 are free, and near one of either view each: 0, in house 1, and 1, in house 0, can't flee. */
    private static final String TWO_STUCK = "s01;s00;s12;s03;s15;s06;s18;s09";
    /** As TWO_STUCK, but 0 comes round by turns to those in houses 0 and 2, and stays. */
    private static final String TALKED_ROUND = "t11;s00;s12;s03;s15;s06;s18;s09";
    /** 0 flees from house 4 to 1, then 1 from house 5 to 4. */
    private static final String TWO_FLEE = "s04;s15;s03;s16";
    /** 6 can't flee from house 7, as 5 and 7 hold the free houses' neighbours; 7 can, past its own old house. */
    private static final String LAST_FLEES = "s10;s21;s32;s43;s54;s05;s07;s08";

    private QuarterSentences() {
    }

    static void all() {
        nearAndAlike();
        changes();
        talkers();
        knocks();
        behindQuarters();
        sums();
        quarterCalls();
        sumCalls();
    }

    private static void nearAndAlike() {
        says("Terms", "Two are NEAR, if their HOUSES differ by 1.", () -> {
            for (int a = 0; a <= 9; a++) {
                for (int b = 0; b <= 9; b++) {
                    if (a != b) {
                        PartingMap x = told("s0" + a + ";n0" + b);
                        due("houses " + a + " and " + b + ": bored(0)", x.bored(0), Math.abs(a - b) == 1 ? 0 : 16);
                    }
                }
            }
        });
        says("Terms", "They AGREE, if their VIEWS are the same, and neither is of no views.", () -> {
            for (int a = 0; a < 64; a++) {
                for (String sorts : new String[] {"ss", "st", "sn", "ts", "tt", "tn", "ns", "nt", "nn"}) {
                    String people = "" + sorts.charAt(0) + a / 8 + "0;" + sorts.charAt(1) + a % 8 + "9";
                    boolean agree = a / 8 == a % 8 && sorts.indexOf('n') < 0;
                    due(people + ": pairs(0, 0)", told(people).pairs(0, 0), agree ? 1 : 0);
                }
            }
        });
    }

    private static void changes() {
        says("Terms", "In a QUARTER first its CHANGES are done, as told, each the other way about", () -> {
            PartingMap x = told("s05", 1, 0, 0, 1, 7, 0, 1, 15, 0);
            int[] want = {2, 2, 2, 2, 2, 2, 2, 0, 0, 0, 0, 0, 0, 0, 0, 2};
            for (int q = 0; q <= 15; q++) {
                due("there, back, there: at(" + q + ", 0, 1)", x.at(q, 0, 1), want[q]);
            }
            due("twice in a quarter", told("s25", 1, 0, 0, 1, 0, 0).at(0, 0, 1), 2);
            due("thrice in a quarter", told("s25", 1, 0, 0, 1, 0, 0, 1, 0, 0).at(0, 0, 1), 0);
            due("all questions at once", told("s55", 0, 9, 0, 1, 9, 0, 2, 9, 0).at(9, 0, 1), 2);
            x = told("t01;s00", 0, 0, 1);
            due("first: a talker hears the changed view", x.at(0, 0, 3), 1);
            x = told("t01;s00", 0, 0, 0);
            due("first: a talker that has changed comes round again", x.at(0, 0, 3), 1);
            due("to what it was", x.at(0, 0, 1), 0);
            due("first: who agrees by it moves", told("s05;s16", 0, 4, 0).at(4, 0, 2), 1);
            due("first: who differs by it stays", told("s05;s06", 0, 0, 1).sum(0), 0);
        });
        says("Terms", "(of those that are there; also of one of no views).", () -> {
            PartingMap x = told("s05;n06", 0, 0, 2, 1, 3, 7, 2, 0, 1);
            due("of 2, who is not there, and 7: views of 0", x.at(15, 0, 1), 0);
            due("of 1, of no views", x.at(0, 1, 1), 4);
            tell(x, ";s29");
            due("of 2, who is there now", x.at(0, 2, 1), 3);
            due("of 0 still", x.at(15, 0, 1), 0);
        });
    }

    private static void dueAt(String people, int quarter, int person, int what, int want, int... events) {
        due(people + ": at(" + quarter + ", " + person + ", " + what + ")",
                told(people, events).at(quarter, person, what), want);
    }

    private static void talkers() {
        says("Terms", "Then talkers, by numbers:", () -> {
            // 0 comes round first, and then there is nothing left for 1 to come round to.
            dueAt("t10;t01", 0, 0, 3, 1);
            dueAt("t10;t01", 0, 1, 3, 0);
            dueAt("t01;t10", 0, 0, 3, 1);
            dueAt("t01;t10", 0, 1, 3, 0);
            // 0 looks at 1 before that one comes round to 2.
            dueAt("t02;t01;s10", 0, 0, 1, 0);
            dueAt("t02;t01;s10", 0, 1, 1, 1);
            dueAt("s05;s16", 15, 0, 3, 0);
            dueAt("n05;s16", 15, 0, 3, 0);
        });
        says("Terms", "one COMES ROUND to who is NEAR and not of no views, the one in the less HOUSE first,"
                + " from whom it differs in any VIEW:", () -> {
            dueAt("t05", 15, 0, 3, 0);
            dueAt("t05;s13;s17", 15, 0, 3, 0);
            dueAt("t05;n14;n16", 15, 0, 3, 0);
            dueAt("t05;s04;s06", 0, 0, 3, 0);
            dueAt("t05;s14;s26", 0, 0, 1, 1);
            dueAt("t05;s24;s16", 0, 0, 1, 2);
            dueAt("t05;s16;s24", 0, 0, 1, 2);
            dueAt("t05;n14;s26", 0, 0, 1, 2);
            dueAt("t05;s04;s26", 0, 0, 1, 2);
            dueAt("t05;s24;n16", 0, 0, 1, 2);
            dueAt("t00;s11", 0, 0, 1, 1);
            dueAt("t09;s18", 0, 0, 1, 1);
            dueAt("t00;s19", 15, 0, 3, 0);
            dueAt("t09;s10", 15, 0, 3, 0);
            dueAt("t05;t16", 0, 0, 1, 1);
        });
        says("Terms", "the least question on which it does is as that one thinks then.", () -> {
            for (int a = 0; a <= 7; a++) {
                for (int b = 0; b <= 7; b++) {
                    int want = a ^ Integer.lowestOneBit(a ^ b);
                    dueAt("t" + a + "5;s" + b + "6", 0, 0, 1, want, 3, 0, 0);
                    dueAt("t" + a + "5;s" + b + "4", 0, 0, 1, want, 3, 0, 0);
                    dueAt("t" + a + "5;s" + b + "6", 0, 0, 3, a == b ? 0 : 1, 3, 0, 0);
                }
            }
            // 0 has come round to 2 when 1 looks at it.
            dueAt("t02;t01;s13", 0, 1, 1, 1);
            dueAt("t02;t01;s13", 0, 1, 3, 1);
            dueAt("t02;s01", 0, 0, 1, 4, 2, 0, 1);
        });
        says("Terms", "(One COMES ROUND to one at most.)", () -> {
            dueAt("t05;s14;s26", 0, 0, 1, 1, 3, 0, 0);
            dueAt("t05;s14;s26", 0, 0, 3, 1, 3, 0, 0);
            dueAt("t05;s74;s26", 0, 0, 1, 1, 3, 0, 0);
            dueAt("t05;s74;s26", 1, 0, 1, 3, 3, 0, 0, 3, 1, 0);
            dueAt("t05;s74;s26", 1, 0, 3, 2, 3, 0, 0, 3, 1, 0);
        });
    }

    private static void knocks() {
        says("Terms", "Then, unless it is a HOLIDAY, inspectors knock at each PERSON's, by numbers:", () -> {
            dueAt("s05;s06", 0, 0, 0, 4);
            dueAt("s05;s06", 15, 1, 0, 6);
            dueAt("s06;s05", 0, 0, 0, 7);
            dueAt("s06;s05", 15, 1, 0, 5);
            dueAt("t05;s16", 0, 0, 2, 1);
            dueAt("t05;s16", 0, 0, 2, 0, 3, 0, 0);
            dueAt("t05;s16", 1, 0, 2, 1, 3, 0, 0);
            dueAt("s05;s06", 15, 0, 2, 1, 3, 14, 0);
            for (int q = 0; q <= 15; q++) {
                PartingMap x = told("s05;s16", 0, q, 0, 3, q, 0);
                due("a holiday in " + q + ": moves by then", x.at(q, 0, 2), 0);
                due("a holiday in " + q + ": moves", x.sum(0), q == 15 ? 0 : 1);
            }
            // Who knocks at 1 finds that 0 has gone already, and where to.
            dueAt(TWO_FLEE, 0, 0, 0, 1);
            dueAt(TWO_FLEE, 0, 1, 0, 4);
        });
        says("Terms", "who AGREES with anybody NEAR must MOVE,", () -> {
            due("the one in the less house", told("s05;s04").at(0, 0, 2), 1);
            due("the one in the house behind", told("s05;s06").at(0, 0, 2), 1);
            due("both", told("s05;s04;s06").sum(0), 1);
            due("at the road's beginning", told("s00;s01").at(0, 0, 2), 1);
            due("at the road's end", told("s09;s08").at(0, 0, 2), 1);
            due("two houses on", told("s05;s07").sum(0), 0);
            due("the road's two ends", told("s00;s09").sum(0), 0);
            due("other views", told("s05;s46").sum(0), 0);
            due("of no views", told("n05;s06").sum(0), 0);
            due("near one of no views", told("s05;n06").sum(0), 0);
            due("both of no views", told("n05;n06").sum(0), 0);
            due("a talker too", told("t05;t06").at(0, 0, 2), 1);
        });
        says("Terms", "to the HOUSE nearest by that nobody has, and NEAR which nobody would AGREE with that one,"
                + " of like ones the less;", () -> {
            refuges();
            dueAt("s05;s04;s06", 0, 0, 0, 2);
            dueAt("s05;s04;s06;s22", 0, 0, 0, 8);
            dueAt("s04;s05;s03", 0, 0, 0, 1);
        });
        says("Terms", "where there is none, it is a TRAGEDY, and that one stays.", () -> {
            PartingMap x = told(TWO_STUCK);
            due("tragedies", x.sum(1), 32);
            due("moves", x.sum(0), 0);
            due("it stays", x.at(15, 0, 0), 1);
            due("the other stays", x.at(15, 1, 0), 0);
            due("no tragedy on a holiday", told(TWO_STUCK, 3, 15, 0).sum(1), 30);
            due("one free house that will do", told(TWO_STUCK.substring(0, 23)).sum(1), 0);
            x = told(LAST_FLEES);
            due("one can't, another can: tragedies", x.sum(1), 1);
            due("one can't, another can: moves", x.sum(0), 1);
            due("who can", x.at(0, 7, 0), 9);
            due("who can't", x.at(15, 6, 0), 7);
        });
    }

    private static void refuges() {
        dueAt("s05;s06", 0, 0, 0, 4);
        dueAt("s05;s04", 0, 0, 0, 6);
        dueAt("s01;s00", 0, 0, 0, 2);
        dueAt("s08;s09", 0, 0, 0, 7);
        dueAt("s00;s01", 0, 0, 0, 3);
        dueAt("s09;s08", 0, 0, 0, 6);
        dueAt("s05;s06;s13", 0, 0, 0, 4);
        dueAt("s05;s06;n03", 0, 0, 0, 4);
        dueAt("s05;s06;s03", 0, 0, 0, 8);
        dueAt("s05;s04;s07", 0, 0, 0, 2);
        dueAt("s05;s06;s14", 0, 0, 0, 3);
        dueAt("s05;s06;n04", 0, 0, 0, 3);
        dueAt("s05;s04;s16", 0, 0, 0, 7);
        // As far as the road goes, and either way.
        dueAt("s00;s01;s12;s03;s14;s05;s16;s07", 0, 0, 0, 9);
        dueAt("s09;s08;s17;s06;s15;s04;s13;s02", 0, 0, 0, 0);
        dueAt(TWO_FLEE, 0, 1, 0, 4);
    }

    private static void behindQuarters() {
        says("Terms", "Behind a QUARTER of a PERSON: the HOUSE; the VIEWS; how often one MOVED by then;"
                + " how often one CAME ROUND by then.", () -> {
            PartingMap x = told(RESTLESS);
            PartingMap stays = told(TALKED_ROUND);
            for (int q = 0; q <= 15; q++) {
                due("house behind " + q, x.at(q, 0, 0), q % 2 == 0 ? 2 : 3);
                due("views behind " + q, x.at(q, 0, 1), q % 2 == 0 ? 0 : 2);
                due("moved by " + q, x.at(q, 0, 2), q + 1);
                due("came round by " + q, x.at(q, 0, 3), q + 1);
                due("who stays: house", stays.at(q, 0, 0), 1);
                due("who stays: views", stays.at(q, 0, 1), q % 2);
                due("who stays: moved", stays.at(q, 0, 2), 0);
                due("who stays: came round", stays.at(q, 0, 3), q + 1);
                due("a steady one: house", x.at(q, 1, 0), 4);
                due("a steady one: moved and came round", x.at(q, 1, 2) + x.at(q, 1, 3), 0);
            }
        });
        says("Terms", "Who is in a HOUSE behind a QUARTER; NONE.", () -> {
            PartingMap x = told(RESTLESS);
            for (int q = 0; q <= 15; q++) {
                for (int h = 0; h <= 9; h++) {
                    int want = h == 1 ? 2 : h == 4 ? 1 : h == (q % 2 == 0 ? 2 : 3) ? 0 : NONE;
                    due("house(" + q + ", " + h + ")", x.house(q, h), want);
                }
            }
            due("the last of eight in the last house", told(ALL_STUCK).house(15, 9), 7);
            due("nobody is there", new PartingMap().house(0, 0), NONE);
        });
        says("Terms", "PAIRS behind a QUARTER: how many AGREE (wherever they live).", () -> {
            due("all of eight", told(ALL_STUCK).pairs(15, 0), 28);
            due("none of eight", told(EIGHT).pairs(15, 0), 0);
            due("at the road's ends", told("s00;s09").pairs(0, 0), 1);
            due("one", told("s00").pairs(0, 0), 0);
            due("nobody", new PartingMap().pairs(15, 0), 0);
            due("of no views", told("n00;n09;s05").pairs(0, 0), 0);
            PartingMap x = told("s00;s19", 0, 15, 0);
            due("before the change", x.pairs(14, 0), 0);
            due("behind the change", x.pairs(15, 0), 1);
        });
        says("Terms", "BORED of a PERSON: behind how many QUARTERS nobody is NEAR.", () -> {
            PartingMap x = told(RESTLESS);
            due("never alone", x.bored(0), 0);
            due("every other quarter", x.bored(1), 8);
            due("the others", x.bored(2), 8);
            due("always", told("s00").bored(0), 16);
            due("one of no views is near", told("s05;n04").bored(0), 0);
            due("of one of no views", told("n05;s16").bored(0), 0);
            due("behind 15 alone", told("s05;s16", 0, 15, 0).bored(0), 1);
            due("of who stays", told("s05;s16", 0, 15, 0).bored(1), 1);
            due("but in quarter 0", told("s05;s06", 3, 0, 0).bored(0), 15);
        });
        says("Terms", "DEAD behind a QUARTER: how many PAIRS are NEAR.", () -> {
            due("all in a row on a holiday", told("s00;s01;s02;s03;s04;s05;s06;s07", 3, 0, 0).pairs(0, 1), 7);
            due("stuck", told(ALL_STUCK).pairs(15, 1), 5);
            due("near, not alike", told(EIGHT).pairs(0, 1), 0);
            due("alike, not near", told("s00;s09").pairs(0, 1), 0);
            due("parted by the knock", told("s05;s06").pairs(0, 1), 0);
            due("near, but of no views", told("n05;s06;n07").pairs(0, 1), 0);
            due("in quarter 15", told("s05;s16", 0, 15, 0, 3, 15, 0).pairs(15, 1), 1);
            due("in quarter 14", told("s05;s16", 0, 15, 0, 3, 15, 0).pairs(14, 1), 0);
            due("nobody", new PartingMap().pairs(0, 1), 0);
        });
    }

    private static void dueSums(String people, int moves, int tragedies, int far, int... events) {
        PartingMap x = told(people, events);
        due(people + ": moves", x.sum(0), moves);
        due(people + ": tragedies", x.sum(1), tragedies);
        due(people + ": far", x.sum(2), far);
    }

    private static void dueFirst(String people, int quarter, int person, int... events) {
        PartingMap x = told(people, events);
        due(people + ": first(0)", x.first(0), quarter);
        due(people + ": first(1)", x.first(1), person);
    }

    private static void sums() {
        says("Terms", "MOVES in all; TRAGEDIES in all; how FAR all MOVES are, together.", () -> {
            dueSums("", 0, 0, 0);
            dueSums(EIGHT, 0, 0, 0);
            dueSums("s05;s06", 1, 0, 1);
            dueSums("s00;s01", 1, 0, 3);
            dueSums(TWO_FLEE, 2, 0, 4);
            dueSums(RESTLESS, 16, 0, 16);
            dueSums(ALL_STUCK, 0, 128, 0);
            dueSums(LAST_FLEES, 1, 1, 1);
            dueSums("s00;s01;s12;s03;s14;s05;s16;s07", 1, 0, 9);
            dueSums("s09;s08;s17;s06;s15;s04;s13;s02", 1, 0, 9);
            dueSums("s00;s11;s05;s16", 2, 0, 9, 0, 3, 2, 0, 5, 0);
        });
        says("Terms", "FIRST: the first QUARTER in which any MOVES; the least such PERSON; NONE.", () -> {
            dueFirst("", NONE, NONE);
            dueFirst(EIGHT, NONE, NONE);
            dueFirst(ALL_STUCK, NONE, NONE);
            dueFirst("s05;s06", 0, 0);
            dueFirst("s05;s16", 15, 0, 0, 15, 0);
            dueFirst("s79;s04;s15;s03;s16", 0, 1);
            dueFirst(LAST_FLEES, 0, 7);
            dueFirst("s00;s11;s05;s16", 3, 2, 0, 3, 2, 0, 5, 0);
            dueFirst("s00;s11;s05;s16", 3, 0, 0, 3, 0, 0, 5, 2);
            dueFirst("s05;s06", 1, 0, 3, 0, 0);
        });
        says("Terms", "ROOTED: PEOPLE that never MOVE, as bits.", () -> {
            due("nobody", new PartingMap().rooted(), 0);
            due("one", told("s00").rooted(), 1);
            due("all of eight", told(EIGHT).rooted(), 255);
            due("a tragedy is no move", told(ALL_STUCK).rooted(), 255);
            due("all but the last", told(LAST_FLEES).rooted(), 127);
            due("all but the first", told("s05;s06;n00").rooted(), 6);
            due("moves in quarter 15", told("s05;s16", 0, 15, 0).rooted(), 2);
            due("two of four", told("s00;s11;s05;s16", 0, 3, 2, 0, 5, 0).rooted(), 10);
        });
        says("Terms", "FRIENDS of a PERSON: who AGREES with that one behind QUARTER 15, as bits.", () -> {
            PartingMap x = told(ALL_STUCK);
            for (int p = 0; p <= 7; p++) {
                due("all but oneself: friends(" + p + ")", x.friends(p), 255 - (1 << p));
            }
            due("alone", told("s00").friends(0), 0);
            due("of no views", told("n00;s05;n09").friends(0), 0);
            due("nobody of no views", told("n00;s05;n09").friends(1), 0);
            due("by a change in quarter 15", told("s00;s19", 0, 15, 1).friends(0), 2);
            due("no longer, by a change in quarter 15", told("s00;s09", 0, 15, 1).friends(0), 0);
            due("until quarter 14", told("s00;s19", 0, 14, 1, 0, 15, 1).friends(1), 0);
        });
    }

    private static void quarterCalls() {
        says("Promise 10", "The HOUSE (what = 0), VIEWS (1), how often one MOVED (2), CAME ROUND (3).", () -> {
            int[] behind0 = {2, 0, 1, 1}, behind15 = {3, 2, 16, 16};
            PartingMap x = told(RESTLESS);
            for (int what = 0; what <= 3; what++) {
                due("at(0, 0, " + what + ")", x.at(0, 0, what), behind0[what]);
                due("at(15, 0, " + what + ")", x.at(15, 0, what), behind15[what]);
            }
        });
        says("Promise 10", "BAD.", () -> {
            PartingMap x = told(RESTLESS);
            int[][] bad = {{-1, 0, 0}, {16, 0, 0}, {0, -1, 0}, {0, 3, 0}, {0, 7, 0}, {0, 8, 0}, {0, 0, -1}, {15, 2, 4}};
            for (int[] b : bad) {
                due("at(" + b[0] + ", " + b[1] + ", " + b[2] + ")", x.at(b[0], b[1], b[2]), BAD);
            }
            for (int far : FAR_OFF) {
                due("at(" + far + ", 0, 0)", x.at(far, 0, 0), BAD);
                due("at(0, " + far + ", 0)", x.at(0, far, 0), BAD);
                due("at(0, 0, " + far + ")", x.at(0, 0, far), BAD);
            }
            due("nobody", new PartingMap().at(0, 0, 0), BAD);
        });
        says("Promise 11", "Who is in a HOUSE; NONE.", () -> {
            PartingMap x = told("s05;s06");
            due("house(0, 4)", x.house(0, 4), 0);
            due("house(0, 5)", x.house(0, 5), NONE);
            due("house(15, 6)", x.house(15, 6), 1);
        });
        says("Promise 11", "BAD.", () -> {
            PartingMap x = told("s00;s19");
            int[][] bad = {{-1, 0}, {16, 0}, {0, -1}, {15, 10}};
            for (int[] b : bad) {
                due("house(" + b[0] + ", " + b[1] + ")", x.house(b[0], b[1]), BAD);
            }
            for (int far : FAR_OFF) {
                due("house(" + far + ", 0)", x.house(far, 0), BAD);
                due("house(0, " + far + ")", x.house(0, far), BAD);
            }
            due("nobody, quarter 16", new PartingMap().house(16, 0), BAD);
            due("nobody, house 10", new PartingMap().house(0, 10), BAD);
        });
        says("Promise 12", "PAIRS (what = 0), DEAD (1).", () -> {
            due("pairs(0, 0)", told(ALL_STUCK).pairs(0, 0), 28);
            due("pairs(0, 1)", told(ALL_STUCK).pairs(0, 1), 5);
        });
        says("Promise 12", "BAD.", () -> {
            PartingMap x = told("s00;s09");
            int[][] bad = {{-1, 0}, {16, 0}, {0, -1}, {15, 2}};
            for (int[] b : bad) {
                due("pairs(" + b[0] + ", " + b[1] + ")", x.pairs(b[0], b[1]), BAD);
            }
            for (int far : FAR_OFF) {
                due("pairs(" + far + ", 0)", x.pairs(far, 0), BAD);
                due("pairs(0, " + far + ")", x.pairs(0, far), BAD);
            }
        });
    }

    private static void sumCalls() {
        says("Promise 13", "BORED.", () -> due("bored(1)", told(RESTLESS).bored(1), 8));
        says("Promise 13", "BAD.", () -> {
            due("bored(-1)", told("s00;s09").bored(-1), BAD);
            due("bored(2)", told("s00;s09").bored(2), BAD);
            due("bored(7) of eight", told(EIGHT).bored(7), 0);
            due("bored(8) of eight", told(EIGHT).bored(8), BAD);
            due("nobody", new PartingMap().bored(0), BAD);
            for (int far : FAR_OFF) {
                due("bored(" + far + ")", told("s00").bored(far), BAD);
            }
        });
        says("Promise 14", "MOVES (what = 0), TRAGEDIES (1), how FAR (2).", () -> {
            PartingMap x = told("s00;s01");
            due("sum(0)", x.sum(0), 1);
            due("sum(1)", x.sum(1), 0);
            due("sum(2)", x.sum(2), 3);
            due("sum(1) of the stuck", told(ALL_STUCK).sum(1), 128);
        });
        says("Promise 14", "BAD.", () -> {
            due("sum(-1)", told("s00;s01").sum(-1), BAD);
            due("sum(3)", told("s00;s01").sum(3), BAD);
            for (int far : FAR_OFF) {
                due("sum(" + far + ")", told("s00").sum(far), BAD);
            }
        });
        says("Promise 15", "FIRST: the QUARTER (what = 0), the PERSON (1); NONE.", () -> {
            due("first(0)", told("s05;s16", 0, 15, 0).first(0), 15);
            due("first(1)", told(LAST_FLEES).first(1), 7);
            due("first(0), none", told("s05").first(0), NONE);
            due("first(1), none", told("s05").first(1), NONE);
        });
        says("Promise 15", "BAD.", () -> {
            due("first(-1)", told("s05;s06").first(-1), BAD);
            due("first(2)", told("s05;s06").first(2), BAD);
            due("first(2), none", new PartingMap().first(2), BAD);
            for (int far : FAR_OFF) {
                due("first(" + far + ")", told("s05;s06").first(far), BAD);
            }
        });
        says("Promise 16", "ROOTED, as bits.", () -> due("rooted()", told(RESTLESS).rooted(), 6));
        says("Promise 17", "FRIENDS, as bits.", () -> due("friends(7)", told(ALL_STUCK).friends(7), 127));
        says("Promise 17", "BAD.", () -> {
            due("friends(-1)", told("s00;s09").friends(-1), BAD);
            due("friends(2)", told("s00;s09").friends(2), BAD);
            due("friends(8) of eight", told(ALL_STUCK).friends(8), BAD);
            due("nobody", new PartingMap().friends(0), BAD);
            for (int far : FAR_OFF) {
                due("friends(" + far + ")", told("s00").friends(far), BAD);
            }
        });
    }
}
