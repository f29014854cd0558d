/** For each promise of the document: ordinary inputs, the edges that it names, and wrong inputs, worked out by hand. */
public final class PromisesTest {
    private static final int LEAST_INT = Integer.MIN_VALUE;
    private static final long BAD_LONG = Long.MIN_VALUE + 2;
    /** Talker 0 between 1 (views 1) and 2 (views 2): it comes round and moves twice each, as told in promise10. */
    private static final String TALKER = "t01;s10;s22";
    private static final String EIGHT_ALIKE = "s00;s01;s02;s03;s04;s05;s06;s07";
    private static int checks;
    private static int wrong;

    public static void main(String[] args) {
        promise1();
        promises2to4();
        promise5();
        promise6();
        promises7and8();
        promise9();
        promise10();
        moving();
        promises11to13();
        promises14to17();
        promise18();
        promise19();
        promise20();
        promise21();
        promises22to24();
        promises25and26();
        promise27();
        promise28();
        promises29and30();
        promises31and32();
        promise33();
        promise34();
        promise35();
        promise36();
        System.out.println(checks + " checks, " + wrong + " wrong");
        if (wrong != 0) {
            System.exit(1);
        }
    }

    private static void due(String what, long got, long want) {
        checks++;
        if (got != want) {
            wrong++;
            System.out.println(what + " answered " + got + ", due is " + want);
        }
    }

    private static PartingMap told(String people) {
        PartingMap x = new PartingMap();
        tell(x, people);
        return x;
    }

    private static void tell(PartingMap x, String people) {
        for (char b : people.toCharArray()) {
            x.type(b);
        }
    }

    private static void promise1() {
        PartingMap x = new PartingMap();
        for (int what = 0; what <= 8; what++) {
            due("1 new: count(" + what + ")", x.count(what), 0);
        }
        due("1 new: fault", x.fault(), -1);
        due("1 new: first", x.first(0), -1);
        due("1 new: first", x.first(1), -1);
        for (int s = 0; s < 4; s++) {
            due("1 new: lose(" + s + ")", x.lose(s), -11);
        }
        due("1 NONE", PartingMap.NONE, -1);
        due("1 BAD", PartingMap.BAD, -2);
        due("1 NOT", PartingMap.NOT, -3);
        due("1 FULL", PartingMap.FULL, -4);
    }

    private static void promises2to4() {
        PartingMap x = new PartingMap();
        due("2 type(-1)", x.type(-1), -2);
        due("2 type(256)", x.type(256), -2);
        due("2 type(least)", x.type(LEAST_INT), -2);
        due("2 type(0)", x.type(0), 1);
        due("2 type(255)", x.type(255), 2);
        for (int n = 3; n <= 31; n++) {
            due("2 type", x.type('s'), n);
        }
        due("2 type: full", x.type('s'), -4);
        due("2 type: bad ahead of full", x.type(256), -2);
        due("2 count(1)", x.count(1), 31);
        due("4 undo", x.undo(), 30);
        due("2 type again", x.type(';'), 31);
        x.event(0, 0, 0);
        due("3 wipe", x.wipe(), 31);
        due("3 wipe: empty now", x.count(1), 0);
        due("3 wipe: no fault", x.fault(), -1);
        due("3 wipe: events stay", x.count(2), 1);
        due("3 wipe again", x.wipe(), 0);
        due("4 undo: none", x.undo(), -3);
        tell(x, "s00");
        due("4 undo", x.undo(), 2);
        due("4 undo: people go", x.count(0), 0);
        x.type('4');
        due("4 undo: another byte there", x.person(0, 2), 4);
    }

    private static void promise5() {
        fault("", -1);
        fault("x", 0);
        fault("S00", 0);
        fault(";", 0);
        fault("0", 0);
        fault("\u00ff", 0);
        fault("s", 1);
        fault("s8", 1);
        fault("s/", 1);
        fault("ss", 1);
        fault("s7", 2);
        fault("s7:", 2);
        fault("s7/", 2);
        fault("s70", -1);
        fault("n09", -1);
        fault("s700", 3);
        fault("s70,", 3);
        fault("s70;", 4);
        fault("s70;;", 4);
        fault("s70;t70", 6);
        fault("s70;t70x", 6);
        fault("s70;x70;t70", 4);
        fault("s70;t71", -1);
        fault("s70;t71;n70", 10);
        fault(EIGHT_ALIKE, -1);
        fault("s00;s01;s02;s03;s04;s05;s06;s00", 30);
        PartingMap x = told("s05;s06;");
        due("5 with a fault: people", x.count(0), 0);
        due("5 with a fault: bytes", x.count(1), 8);
        due("5 with a fault: person", x.person(0, 0), -2);
        due("5 with a fault: sum", x.sum(0), 0);
        x.undo();
        due("5 mended: sum", x.sum(0), 1);
    }

    private static void fault(String people, int want) {
        due("5 fault of '" + people + "'", told(people).fault(), want);
    }

    private static void promise6() {
        PartingMap x = told("s12;t79;n00");
        int[][] want = {{0, 1, 2}, {1, 7, 9}, {2, 0, 0}};
        for (int p = 0; p < 3; p++) {
            for (int what = 0; what < 3; what++) {
                due("6 person(" + p + ", " + what + ")", x.person(p, what), want[p][what]);
            }
        }
        due("6 person(3, 0)", x.person(3, 0), -2);
        due("6 person(-1, 0)", x.person(-1, 0), -2);
        due("6 person(0, 3)", x.person(0, 3), -2);
        due("6 person(0, -1)", x.person(0, -1), -2);
        x = told("s05;s06");
        due("6 as told, though it moved", x.person(0, 2), 5);
        x.event(0, 0, 0);
        due("6 as told, though it changed", x.person(0, 1), 0);
    }

    private static void promises7and8() {
        PartingMap x = new PartingMap();
        due("8 back: none", x.back(), -3);
        int[][] bad = {{-1, 0, 0}, {4, 0, 0}, {0, -1, 0}, {0, 16, 0}, {0, 0, -1}, {0, 0, 8}, {3, 0, 8}};
        for (int[] e : bad) {
            due("7 bad event", x.event(e[0], e[1], e[2]), -2);
        }
        for (int n = 1; n <= 8; n++) {
            due("7 event", x.event(n % 4, 2 * n - 1, n - 1), n);
        }
        due("7 full", x.event(0, 0, 0), -4);
        due("7 bad ahead of full", x.event(4, 0, 0), -2);
        for (int n = 7; n >= 0; n--) {
            due("8 back", x.back(), n);
        }
        due("8 back: none left", x.back(), -3);
        x = told("s00;s15");
        x.event(2, 3, 1);
        x.event(0, 5, 1);
        due("7 not yet", x.at(2, 1, 1), 1);
        due("7 a change", x.at(3, 1, 1), 5);
        due("7 the other way about", x.at(5, 1, 1), 4);
        due("7 another one", x.at(15, 0, 1), 0);
        x.back();
        due("8 the change is undone", x.at(15, 1, 1), 5);
        x.event(2, 3, 1);
        due("7 twice is as never", x.at(3, 1, 1), 1);
        x.event(0, 0, 7);
        due("7 of one that is not there", x.at(15, 0, 1), 0);
        x = told("n05");
        x.event(1, 1, 0);
        due("7 of one of no views", x.at(1, 0, 1), 2);
    }

    private static void promise9() {
        PartingMap x = told("s00;s05");
        due("9 bad sheet", x.read(4), -2);
        due("9 bad sheet", x.read(-1), -2);
        due("9 lost", x.read(0), -11);
        due("9 the finding", x.count(8), 1);
        x.sheet(0, 0, 0);
        due("9 no items", x.read(0), 0);
        x.sheet(0, 0, 8);
        int[] items = {2, 3, 1, 0, 15, 7, 1, 1};
        for (int i = 0; i < items.length; i++) {
            x.lay(0, 0, i, items[i]);
        }
        due("9 the whole ones", x.read(0), 2);
        due("9 they are events", x.count(2), 2);
        due("9 they are done", x.at(3, 1, 1), 4);
        due("9 the sheet stays", x.get(0, 0, 4), 15);
        x.lay(0, 0, 4, 16);
        due("9 one that may not be ends it", x.read(0), 1);
        x.lay(0, 0, 0, 4);
        due("9 none may be", x.read(0), 0);
        x.sheet(1, 2, 60);
        due("9 as long as there is room", x.read(1), 5);
        due("9 full", x.read(1), 0);
        due("9 full", x.count(2), 8);
        PartingMap y = told("s00");
        y.sheet(2, 2, 6);
        y.lay(2, 2, 0, 256);
        due("9 an int is not cut", y.read(2), 0);
    }

    private static void promise10() {
        PartingMap x = told(TALKER);
        // 0: less house first, to views 1; agrees with house 0; houses 0 and 2 are taken, so 3. 1: near 2 alone, the
        // least question. 2: comes to views 2, agrees, and goes to 4, where nobody is near.
        int[][] talker = {{3, 1, 1, 1}, {3, 0, 1, 2}, {4, 2, 2, 3}, {4, 2, 2, 3}};
        for (int q = 0; q < 4; q++) {
            for (int what = 0; what < 4; what++) {
                due("10 at(" + q + ", 0, " + what + ")", x.at(q, 0, what), talker[q][what]);
            }
        }
        due("10 at(15, 0, 2)", x.at(15, 0, 2), 2);
        due("10 a steady one", x.at(15, 1, 3), 0);
        due("10 a steady one", x.at(15, 2, 1), 2);
        int[][] bad = {{-1, 0, 0}, {16, 0, 0}, {0, -1, 0}, {0, 3, 0}, {0, 0, -1}, {0, 0, 4}};
        for (int[] b : bad) {
            due("10 bad", x.at(b[0], b[1], b[2]), -2);
        }
        due("10 nobody is there", new PartingMap().at(0, 0, 0), -2);
        x = told("t11;s10;s02");
        due("10 the one in the less house thinks the same", x.at(0, 0, 1), 0);
        due("10 so it came round to the other", x.at(0, 0, 3), 1);
        x = told("t01;n10;n12");
        due("10 nobody comes round to one of no views", x.at(15, 0, 3), 0);
        x = told("n01;s10");
        due("10 one of no views does not come round", x.at(15, 0, 1), 0);
        x = told("t10;t01");
        due("10 talkers by numbers", x.at(0, 0, 1), 0);
        due("10 as that one thinks then", x.at(0, 1, 3), 0);
        x = told("t01;s60");
        due("10 the least question", x.at(0, 0, 1), 2);
        due("10 then the next", x.at(1, 0, 1), 6);
        x = told("t71;s10");
        due("10 downwards too", x.at(0, 0, 1), 5);
    }

    private static void moving() {
        PartingMap x = told("s05;s06");
        due("10 its own old house does not hinder", x.at(0, 0, 0), 4);
        due("10 the other stays", x.at(15, 1, 0), 6);
        x = told("s05;s04;s06");
        due("10 of like ones the less", x.at(0, 0, 0), 2);
        x = told("s01;s00;s12");
        due("10 the nearest", x.at(0, 0, 0), 3);
        x = told("s00;s01;s13");
        due("10 none where one would agree", x.at(0, 0, 0), 4);
        x = told("s00;n01");
        due("10 no views, no agreeing", x.sum(0), 0);
        x = told("s00;s11");
        due("10 other views", x.sum(0), 0);
        x = told("s00;s02");
        due("10 not near", x.sum(0), 0);
        x = told("s09;s08;s00");
        due("10 the road ends", x.at(0, 0, 0), 6);
        x = told("s05;s06");
        x.event(3, 0, 7);
        due("10 a holiday of all", x.at(0, 0, 0), 5);
        due("10 behind the holiday", x.at(1, 0, 0), 4);
        x = told("t05;s16");
        x.event(3, 0, 0);
        due("10 one comes round on a holiday too", x.at(0, 0, 3), 1);
        due("10 but stays", x.at(0, 0, 2), 0);
        x = told("s05;s16");
        x.event(0, 4, 0);
        due("10 changes come ahead of the knock", x.at(4, 0, 0), 4);
    }

    private static void promises11to13() {
        PartingMap x = told("s05;s06;n07");
        due("11 house(0, 4)", x.house(0, 4), 0);
        due("11 house(0, 5)", x.house(0, 5), -1);
        due("11 house(15, 6)", x.house(15, 6), 1);
        due("11 house(0, 0)", x.house(0, 0), -1);
        due("11 bad", x.house(-1, 0), -2);
        due("11 bad", x.house(16, 0), -2);
        due("11 bad", x.house(0, -1), -2);
        due("11 bad", x.house(0, 10), -2);
        due("12 pairs", x.pairs(0, 0), 1);
        due("12 dead: parted", x.pairs(0, 1), 0);
        due("12 bad", x.pairs(-1, 0), -2);
        due("12 bad", x.pairs(16, 0), -2);
        due("12 bad", x.pairs(0, 2), -2);
        due("12 bad", x.pairs(0, -1), -2);
        due("13 nobody near", x.bored(0), 16);
        due("13 one of no views is near", x.bored(1), 0);
        due("13 of one of no views", x.bored(2), 0);
        due("13 bad", x.bored(3), -2);
        due("13 bad", x.bored(-1), -2);
        x.event(3, 0, 0);
        due("12 dead: a holiday", x.pairs(0, 1), 1);
        due("12 dead: parted", x.pairs(1, 1), 0);
        due("13 not in the holiday", x.bored(0), 15);
        x = told(EIGHT_ALIKE);
        due("12 all pairs", x.pairs(15, 0), 28);
        due("12 the dead", x.pairs(15, 1), 5);
        x = told("s00;s11");
        due("12 near, not alike", x.pairs(0, 1), 0);
        due("12 nobody", new PartingMap().pairs(0, 0), 0);
    }

    private static void promises14to17() {
        PartingMap x = told(EIGHT_ALIKE);
        due("14 moves", x.sum(0), 2);
        due("14 tragedies", x.sum(1), 96);
        due("14 far", x.sum(2), 10);
        due("14 bad", x.sum(3), -2);
        due("14 bad", x.sum(-1), -2);
        due("15 first quarter", x.first(0), 0);
        due("15 first person", x.first(1), 0);
        due("16 rooted", x.rooted(), 252);
        x = told("s10;s25;s06");
        due("15 none", x.first(0), -1);
        due("15 none", x.first(1), -1);
        due("15 bad", x.first(2), -2);
        due("15 bad", x.first(-1), -2);
        due("16 all", x.rooted(), 7);
        x.event(1, 9, 1);
        due("15 a later quarter", x.first(0), 9);
        due("15 and who", x.first(1), 1);
        due("16 not that one", x.rooted(), 5);
        due("17 friends", x.friends(1), 4);
        due("17 friends", x.friends(2), 2);
        due("17 none", x.friends(0), 0);
        due("17 bad", x.friends(3), -2);
        due("17 bad", x.friends(-1), -2);
        x.event(0, 15, 0);
        due("17 behind quarter 15", x.friends(0), 6);
        x = told("n00;n05;s07");
        due("17 of no views", x.friends(0), 0);
        due("17 of no views", x.friends(2), 0);
        due("16 nobody", new PartingMap().rooted(), 0);
    }

    private static void promise18() {
        PartingMap x = told("s05;s06");
        due("18 the least without a move", x.settle(0, 0), 0);
        due("18 how many", x.settle(0, 1), 0);
        x = told("s01;s00;s02");
        due("18 not one that is told; not near", x.settle(0, 0), 4);
        due("18 how many", x.settle(0, 1), 0);
        x = told("s00;s15;s16");
        due("18 its own may be it", x.settle(0, 0), 0);
        due("18 of like ones the least", x.settle(0, 1), 1);
        x = told("s49;s15;s16");
        due("18 nothing helps: the least", x.settle(0, 0), 0);
        x = told(EIGHT_ALIKE);
        due("18 which", x.settle(0, 0), 9);
        due("18 how many", x.settle(0, 1), 1);
        due("18 what was told stays", x.at(0, 0, 0), 9);
        due("18 what was told stays", x.person(0, 2), 0);
        due("18 bad", x.settle(8, 0), -2);
        due("18 bad", x.settle(-1, 0), -2);
        due("18 bad", x.settle(0, 2), -2);
        due("18 bad", x.settle(0, -1), -2);
    }

    private static void promise19() {
        PartingMap x = told("s05;s06");
        due("19 which", x.think(0, 0), 0);
        due("19 how many", x.think(0, 1), 0);
        x = told("s05;s16;s24");
        // Question 0 makes 0 agree with 1, question 1 with 2, question 2 with nobody.
        due("19 which", x.think(0, 0), 2);
        due("19 how many", x.think(0, 1), 0);
        x.event(0, 0, 0);
        due("19 behind the events of quarter 0", x.think(0, 0), 0);
        for (int n = 0; n < 7; n++) {
            x.event(3, 15, 0);
        }
        due("19 whatever room", x.think(0, 0), 0);
        due("19 how many", x.think(0, 1), 0);
        due("19 nothing is told by it", x.count(2), 8);
        x = told("n05;s06");
        due("19 of one of no views", x.think(0, 0), 0);
        due("19 bad", x.think(2, 0), -2);
        due("19 bad", x.think(-1, 0), -2);
        due("19 bad", x.think(0, 2), -2);
        due("19 bad", x.think(0, -1), -2);
    }

    private static void promise20() {
        PartingMap x = new PartingMap();
        due("20 nobody", x.rest(0), 0);
        due("20 nobody", x.rest(1), 0);
        x = told("s05;s16");
        x.event(0, 6, 0);
        due("20 of like ones the least", x.rest(0), 0);
        due("20 how many", x.rest(1), 1);
        x.event(0, 7, 0);
        due("20 the quarter in which they agree", x.rest(0), 6);
        due("20 how many", x.rest(1), 0);
        due("20 what was told stays", x.sum(0), 1);
        due("20 bad", x.rest(2), -2);
        due("20 bad", x.rest(-1), -2);
    }

    private static void promise21() {
        PartingMap x = new PartingMap();
        due("21 no tragedy", x.spare(-1), 0);
        due("21 none", x.spare(0), -1);
        due("21 none", x.spare(1), -1);
        due("21 bad", x.spare(2), -2);
        due("21 bad", x.spare(-2), -2);
        x = told(EIGHT_ALIKE);
        due("21 nothing helps", x.spare(-1), -1);
        due("21 nothing helps", x.spare(0), -1);
        // Houses 0 to 7 are taken in turns by views 0 and 1; whoever changes has but 8 and 9 to go to.
        x = told("s00;s11;s02;s13;s04;s15;s06;s17");
        x.event(0, 0, 3);
        x.event(3, 0, 0);
        x.event(0, 1, 1);
        due("21 tragedies", x.sum(1) > 0 ? 1 : 0, 1);
        due("21 how many", x.spare(-1), 1);
        due("21 which", x.spare(0), 0);
        due("21 no second", x.spare(1), -1);
        x = told("s00;s11;s02;s13;s04;s15;s06;s17");
        x.event(3, 9, 0);
        for (int p = 1; p <= 5; p += 2) {
            x.event(0, 15, p);
        }
        // One change is borne by houses 8 and 9, two are not; without the holiday and any one, two are left.
        due("21 how many", x.spare(-1), 2);
        due("21 the first", x.spare(0), 1);
        due("21 the second", x.spare(1), 2);
    }

    private static void promises22to24() {
        PartingMap x = told("s05;s16");
        int[][] bad = {{-1, 0, 0}, {16, 0, 0}, {0, -1, 0}, {0, 8, 0}, {0, 0, -1}, {0, 0, 10}};
        for (int[] b : bad) {
            due("22 bad", x.seen(b[0], b[1], b[2]), -2);
        }
        due("23 none", x.forget(), 0);
        x.event(0, 3, 0);
        x.event(1, 3, 0);
        x.event(2, 9, 1);
        // With both changes 0 thinks 3 and stays; without the second it agrees with 1 and goes to 4.
        due("24 nothing seen", x.never(), 7);
        due("22 seen", x.seen(3, 0, 4), 1);
        due("24 the one that keeps it at home", x.never(), 2);
        due("22 seen", x.seen(2, 0, 5), 2);
        due("24 that was so too", x.never(), 2);
        due("22 seen", x.seen(2, 0, 4), 3);
        due("24 that cannot be", x.never(), 0);
        due("23 forget", x.forget(), 3);
        due("23 forgotten", x.never(), 7);
        due("22 one that there is not", x.seen(0, 2, 0), 1);
        due("24 never comes out so", x.never(), 0);
        for (int n = 2; n <= 8; n++) {
            due("22 seen", x.seen(0, 7, 9), n);
        }
        due("22 full", x.seen(0, 0, 0), -4);
        due("22 bad ahead of full", x.seen(16, 0, 0), -2);
        due("23 forget", x.forget(), 8);
        due("23 forget", x.count(7), 0);
    }

    private static void promises25and26() {
        PartingMap x = told("s05;s16");
        due("25 anything", x.was(0, 0), 255);
        due("25 any sort", x.was(0, 1), 7);
        x.seen(0, 0, 4);
        due("25 the views that agree", x.was(0, 0), 2);
        due("25 no sort but a talker moves", x.was(0, 1), 2);
        x.forget();
        x.seen(15, 0, 5);
        due("25 all the others", x.was(0, 0), 253);
        due("25 a talker would have moved", x.was(0, 1), 5);
        x.seen(15, 0, 6);
        due("25 none", x.was(0, 0), 0);
        due("26 of none", x.ask(0), 0);
        x.forget();
        x.seen(0, 5, 0);
        due("25 one that there is not", x.was(0, 0), 0);
        x.forget();
        due("26 all quarters are alike", x.ask(0), 0);
        x = told("s05;s16;s24");
        x.event(2, 7, 0);
        // Until 7 two of eight move away, behind it the two that now agree too.
        due("26 the quarter that tells most", x.ask(0), 7);
        x.seen(15, 0, 5);
        due("26 of those that are left", x.ask(0), 0);
        due("25 bad", x.was(3, 0), -2);
        due("25 bad", x.was(-1, 0), -2);
        due("25 bad", x.was(0, 2), -2);
        due("25 bad", x.was(0, -1), -2);
        due("26 bad", x.ask(3), -2);
        due("26 bad", x.ask(-1), -2);
    }

    private static void promise27() {
        PartingMap x = told("s05;s16");
        due("27 no events: never", x.chance(5, 0, 0), 0);
        due("27 0 by 1", x.chance(5, 0, 1), 1);
        x.event(0, 3, 0);
        due("27 above", x.chance(5, 0, 0), 5);
        due("27 below", x.chance(5, 0, 1), 16);
        due("27 lowest terms", x.chance(4, 0, 0), 1);
        due("27 lowest terms", x.chance(4, 0, 1), 4);
        due("27 c 0", x.chance(0, 0, 0), 0);
        due("27 c 0", x.chance(0, 0, 1), 1);
        due("27 c 16", x.chance(16, 0, 0), 1);
        due("27 c 16", x.chance(16, 0, 1), 1);
        due("27 the other one", x.chance(8, 1, 0), 0);
        x.event(1, 3, 0);
        // The first without the second: 5 by 16 times 11 by 16.
        due("27 by itself", x.chance(5, 0, 0), 55);
        due("27 by itself", x.chance(5, 0, 1), 256);
        for (int n = 0; n < 6; n++) {
            x.event(3, 15, 0);
        }
        due("27 eight events", x.chance(5, 0, 0), 55);
        due("27 eight events", x.chance(5, 0, 1), 256);
        x = told("s05;s16");
        for (int n = 0; n < 8; n++) {
            x.event(0, n, 0);
        }
        // Any one change makes them agree in its quarter: 1 less (15 by 16) to the 8th.
        due("27 exactly", x.chance(1, 0, 0), 4294967296L - 2562890625L);
        due("27 exactly", x.chance(1, 0, 1), 4294967296L);
        x.back();
        due("27 with an event less", x.chance(1, 0, 1), 268435456L);
        x.wipe();
        due("27 bad: nobody", x.chance(1, 0, 0), BAD_LONG);
        x = told("s05;s06");
        due("27 surely", x.chance(7, 0, 0), 1);
        due("27 bad", x.chance(17, 0, 0), BAD_LONG);
        due("27 bad", x.chance(-1, 0, 0), BAD_LONG);
        due("27 bad", x.chance(0, 2, 0), BAD_LONG);
        due("27 bad", x.chance(0, -1, 0), BAD_LONG);
        due("27 bad", x.chance(0, 0, 2), BAD_LONG);
        due("27 bad", x.chance(0, 0, -1), BAD_LONG);
    }

    private static void promise28() {
        PartingMap x = told("s05;s06;s12;t33");
        for (int seed : new int[] {0, 1, 7, -1, LEAST_INT, Integer.MAX_VALUE, 123456789}) {
            for (int n = 0; n <= 8; n++) {
                PartingMap y = told("s05;s06;s12;t33");
                long state = seed & 0xffffffffL;
                for (int e = 0; e < n; e++) {
                    long[] lots = new long[3];
                    for (int k = 0; k < 3; k++) {
                        state = (1103515245L * state + 12345) & 0xffffffffL;
                        lots[k] = (state >> 16) % (k == 0 ? 4 : k == 1 ? 16 : 4);
                    }
                    y.event((int) lots[0], (int) lots[1], (int) lots[2]);
                }
                due("28 moves", x.decades(seed, n, 0), y.sum(0));
                due("28 tragedies", x.decades(seed, n, 1), y.sum(1));
            }
        }
        int[][] many = {{7, 6, 7, 32}, {8, 8, 6, -1}};
        x = told("s30;t21;s32;n33;t75;s76;t08");
        for (int[] m : many) {
            due("28 moves", x.decades(m[0], m[1], 0), m[2]);
            if (m[3] >= 0) {
                due("28 tragedies", x.decades(m[0], m[1], 1), m[3]);
            }
        }
        x = told("s05;s06");
        x.event(3, 0, 0);
        due("28 in place of those told", x.decades(0, 0, 0), 1);
        due("28 those told stay", x.count(2), 1);
        due("28 nobody", new PartingMap().decades(9, 8, 0), 0);
        due("28 bad", x.decades(0, 9, 0), -2);
        due("28 bad", x.decades(0, -1, 0), -2);
        due("28 bad", x.decades(0, 0, 2), -2);
        due("28 bad", x.decades(0, 0, -1), -2);
    }

    private static void promises29and30() {
        PartingMap x = new PartingMap();
        due("29 bad sheet", x.sheet(4, 0, 0), -2);
        due("29 bad sheet", x.sheet(-1, 0, 0), -2);
        due("29 bad form", x.sheet(0, 3, 0), -2);
        due("29 bad form", x.sheet(0, -1, 0), -2);
        due("29 above 60", x.sheet(0, 0, 61), -2);
        due("29 bad is no finding", x.count(8), 0);
        due("29 size", x.sheet(0, 0, -1), -15);
        due("29 size", x.count(8), 5);
        due("29 bad ahead of size", x.sheet(0, 3, -1), -2);
        due("29 still lost", x.lose(0), -11);
        due("29 the most", x.sheet(0, 0, 60), 60);
        due("29 the least", x.sheet(1, 1, 0), 0);
        due("29 of 0 at first", x.get(0, 0, 59), 0);
        x.lay(0, 0, 3, 7);
        due("29 size changes nothing", x.sheet(0, 2, LEAST_INT), -15);
        due("29 size changes nothing", x.get(0, 0, 3), 7);
        due("29 a new row", x.sheet(0, 0, 10), 10);
        due("29 0 again", x.get(0, 0, 3), 0);
        due("29 another form", x.sheet(0, 2, 5), 5);
        due("29 another form", x.get(0, 2, 4), 0);
        due("30 lose", x.lose(0), 5);
        due("30 lost already", x.lose(0), -11);
        due("30 the finding", x.count(8), 1);
        due("30 no items", x.lose(1), 0);
        due("30 bad", x.lose(4), -2);
        due("30 bad", x.lose(-1), -2);
    }

    private static void promises31and32() {
        PartingMap x = new PartingMap();
        x.sheet(0, 0, 3);
        x.sheet(1, 1, 3);
        x.sheet(2, 2, 3);
        int[] values = {0, 127, 128, -129, 255, 32768, 65535, 70000, LEAST_INT, Integer.MAX_VALUE};
        for (int v : values) {
            due("31 lay", x.lay(0, 0, 2, v), 1);
            due("31 lay", x.lay(1, 1, 2, v), 1);
            due("31 lay", x.lay(2, 2, 2, v), 1);
            due("31 a byte", x.get(0, 0, 2), (byte) v);
            due("31 a short", x.get(1, 1, 2), (short) v);
            due("31 an int", x.get(2, 2, 2), v);
        }
        due("31 bad", x.lay(4, 0, 0, 0), -2);
        due("31 bad", x.lay(-1, 0, 0, 0), -2);
        due("31 bad", x.lay(0, 3, 0, 0), -2);
        due("31 bad", x.lay(0, -1, 0, 0), -2);
        due("31 bad ahead of null", x.lay(3, 3, 0, 0), -2);
        due("31 null ahead of index", x.lay(3, 0, 9, 0), -11);
        due("31 cast ahead of index", x.lay(0, 1, 9, 0), -13);
        due("31 the finding", x.count(8), 3);
        due("31 index", x.lay(0, 0, 3, 0), -12);
        due("31 index", x.lay(0, 0, -1, 0), -12);
        due("31 the finding", x.count(8), 2);
        due("32 get", x.get(2, 2, 2), Integer.MAX_VALUE);
        due("32 another item", x.get(2, 2, 1), 0);
        due("32 null", x.get(3, 0, 9), LEAST_INT);
        due("32 null", x.count(8), 1);
        due("32 cast", x.get(0, 1, 9), LEAST_INT);
        due("32 cast", x.count(8), 3);
        due("32 bad", x.get(4, 0, 0), LEAST_INT);
        due("32 bad", x.get(0, 3, 0), LEAST_INT);
        due("32 bad", x.get(-1, -1, 0), LEAST_INT);
        due("32 bad is no finding", x.count(8), 3);
        due("32 index", x.get(0, 0, 3), LEAST_INT);
        due("32 index", x.count(8), 2);
        due("32 index", x.get(0, 0, -1), LEAST_INT);
    }

    private static void promise33() {
        PartingMap x = new PartingMap();
        x.sheet(0, 1, 6);
        x.sheet(1, 1, 3);
        x.sheet(2, 2, 6);
        for (int i = 0; i < 6; i++) {
            x.lay(0, 1, i, i + 1);
        }
        due("33 copy", x.copy(0, 2, 1, 1, 2), 1);
        row(x, 1, 1, 0, 3, 4);
        due("33 within one, as they were", x.copy(0, 0, 0, 1, 5), 1);
        row(x, 0, 1, 1, 1, 2, 3, 4, 5);
        due("33 the other way", x.copy(0, 1, 0, 0, 5), 1);
        row(x, 0, 1, 1, 2, 3, 4, 5, 5);
        due("33 bad", x.copy(4, 0, 0, 0, 0), -2);
        due("33 bad", x.copy(0, 0, 4, 0, 0), -2);
        due("33 bad", x.copy(-1, 0, 0, 0, 0), -2);
        due("33 bad", x.copy(3, 0, -1, 0, 0), -2);
        due("33 null", x.copy(3, 0, 0, 0, -1), -11);
        due("33 null", x.copy(0, 0, 3, 0, -1), -11);
        due("33 store ahead of index", x.copy(0, 0, 2, 0, -1), -14);
        due("33 store with n 0", x.copy(0, 0, 2, 0, 0), -14);
        due("33 the finding", x.count(8), 4);
        due("33 below 0", x.copy(0, -1, 1, 0, 1), -12);
        due("33 below 0", x.copy(0, 0, 1, -1, 1), -12);
        due("33 below 0", x.copy(0, 0, 1, 0, -1), -12);
        due("33 the finding", x.count(8), 2);
        due("33 not so many", x.copy(1, 0, 0, 0, 4), -12);
        due("33 not so many", x.copy(0, 0, 1, 0, 4), -12);
        due("33 far too many", x.copy(0, 1, 0, 1, Integer.MAX_VALUE), -12);
        due("33 far behind", x.copy(0, Integer.MAX_VALUE, 0, 0, 1), -12);
        due("33 n 0 at the ends", x.copy(0, 6, 1, 3, 0), 1);
        due("33 n 0 behind the end", x.copy(0, 7, 1, 0, 0), -12);
        due("33 n 0 behind the end", x.copy(0, 0, 1, 4, 0), -12);
        row(x, 1, 1, 0, 3, 4);
    }

    private static void row(PartingMap x, int s, int form, int... want) {
        for (int i = 0; i < want.length; i++) {
            due("33 item " + i, x.get(s, form, i), want[i]);
        }
    }

    private static void promise34() {
        PartingMap x = told(TALKER);
        x.sheet(0, 0, 20);
        x.sheet(1, 1, 3);
        x.sheet(2, 2, 16);
        x.lay(0, 0, 16, 77);
        due("34 16 at most", x.write(0, 0), 16);
        due("34 the houses", x.get(0, 0, 0), 3);
        due("34 the houses", x.get(0, 0, 1), 3);
        due("34 the houses", x.get(0, 0, 2), 4);
        due("34 the houses", x.get(0, 0, 15), 4);
        due("34 behind them nothing is changed", x.get(0, 0, 16), 77);
        due("34 as many as there are items", x.write(2, 1), 3);
        due("34 the houses", x.get(1, 1, 2), 2);
        due("34 of ints", x.write(0, 2), 16);
        due("34 of ints", x.get(2, 2, 15), 4);
        x.sheet(2, 2, 0);
        due("34 no items", x.write(0, 2), 0);
        due("34 null", x.write(0, 3), -11);
        due("34 bad ahead of null", x.write(3, 3), -2);
        due("34 bad", x.write(3, 0), -2);
        due("34 bad", x.write(-1, 0), -2);
        due("34 bad", x.write(0, 4), -2);
        due("34 bad", x.write(0, -1), -2);
    }

    private static void promise35() {
        PartingMap x = told(EIGHT_ALIKE);
        x.event(3, 15, 0);
        x.event(3, 15, 0);
        x.seen(0, 0, 0);
        x.lose(0);
        int[] want = {8, 31, 2, 2, 90, 10, 6, 1, 1};
        for (int what = 0; what <= 8; what++) {
            due("35 count(" + what + ")", x.count(what), want[what]);
        }
        due("35 bad", x.count(9), -2);
        due("35 bad", x.count(-1), -2);
        x.type(300);
        due("35 a refusal is no finding", x.count(8), 1);
        x.sheet(0, 0, 1);
        due("35 the latest finding stays", x.count(8), 1);
    }

    private static void promise36() {
        due("36 nobody", new PartingMap().digest(), byHand(new PartingMap()));
        for (String people : new String[] {TALKER, EIGHT_ALIKE, "s30;t21;s32;n33;t75;s76;t08", "s0", "n05;s06"}) {
            PartingMap x = told(people);
            due("36 digest of " + people, x.digest(), byHand(x));
            // Another object, since nothing is promised behind the 512th call.
            x = told(people);
            x.event(0, 4, 0);
            x.event(3, 5, 0);
            x.event(1, 0, 1);
            x.seen(15, 0, 4);
            x.lose(3);
            due("36 digest of " + people + " with events", x.digest(), byHand(x));
        }
    }

    private static long byHand(PartingMap x) {
        java.util.List<Long> all = new java.util.ArrayList<>();
        for (int what = 0; what <= 7; what++) {
            all.add((long) x.count(what));
        }
        all.add((long) x.fault());
        for (int p = 0; p < x.count(0); p++) {
            for (int what = 0; what <= 2; what++) {
                all.add((long) x.person(p, what));
            }
            for (int q = 0; q <= 15; q += 5) {
                for (int what = 0; what <= 3; what++) {
                    all.add((long) x.at(q, p, what));
                }
            }
            int[] answers = {x.bored(p), x.friends(p), x.settle(p, 0), x.settle(p, 1), x.think(p, 0), x.think(p, 1),
                x.was(p, 0), x.was(p, 1), x.ask(p)};
            for (int answer : answers) {
                all.add((long) answer);
            }
            all.add(x.chance(5, p, 0));
            all.add(x.chance(5, p, 1));
        }
        for (int q = 0; q <= 15; q++) {
            all.add((long) x.pairs(q, 0));
            all.add((long) x.pairs(q, 1));
        }
        for (int h = 0; h <= 9; h++) {
            all.add((long) x.house(7, h));
            all.add((long) x.house(15, h));
        }
        int[] last = {x.first(0), x.first(1), x.rest(0), x.rest(1), x.spare(-1), x.spare(0), x.never(),
            x.decades(7, 6, 0), x.decades(7, 6, 1)};
        for (int answer : last) {
            all.add((long) answer);
        }
        long h = 17;
        for (long one : all) {
            h = 31 * h + one;
        }
        return h;
    }
}
