/** The road, people and events: the first part of Terms, and promises 1 to 9. */
final class PeopleSentences extends Sentences {
    private static final int LONGEST = 31;

    private PeopleSentences() {
    }

    static void all() {
        road();
        people();
        faults();
        events();
        newObject();
        typing();
        persons();
        eventCalls();
        reading();
    }

    private static void dueFault(String people, int want) {
        due("fault of '" + people + "'", told(people).fault(), want);
    }

    private static void road() {
        says("What it is", "THE ROAD has HOUSES 0 to 9, one behind the other.", () -> {
            PartingMap x = told("s00;s19");
            due("house(0, 0)", x.house(0, 0), 0);
            due("house(0, 9)", x.house(0, 9), 1);
            due("house(0, -1)", x.house(0, -1), BAD);
            due("house(0, 10)", x.house(0, 10), BAD);
            due("the ends of the road do not meet: bored(0)", x.bored(0), 16);
            dueFault("s0:", 2);
            dueFault("s0/", 2);
        });
        says("What it is", "An object is used for at most 512 calls after it has been made", () -> {
            PartingMap x = told("s05;s16");
            for (int n = 0; n < (512 - 7 - 5) / 2; n++) {
                x.event(0, 0, 0);
                x.back();
            }
            due("event, call 508", x.event(0, 15, 0), 1);
            due("sum(0), call 509", x.sum(0), 1);
            due("at(15, 0, 0), call 510", x.at(15, 0, 0), 4);
            due("at(14, 0, 0), call 511", x.at(14, 0, 0), 5);
            due("count(2), call 512", x.count(2), 1);
        });
    }

    private static void people() {
        says("Terms", "PEOPLE are a text of up to 31 bytes (text 0), 8 at most (0 on), with ; between them:", () -> {
            PartingMap x = told(EIGHT);
            due("bytes of eight", x.count(1), LONGEST);
            due("people", x.count(0), 8);
            due("person(0, 2)", x.person(0, 2), 0);
            due("person(7, 2)", x.person(7, 2), 7);
            due("person(8, 2)", x.person(8, 2), BAD);
            due("a 32nd byte", x.type(';'), FULL);
            due("people of seven", told(EIGHT.substring(0, 27)).count(0), 7);
            due("people of one", told("s00").count(0), 1);
            dueFault("s00s11", 3);
            dueFault("s00,s11", 3);
            dueFault("s00;;s11", 4);
            dueFault("s00; s11", 4);
            dueFault(";s00", 0);
        });
        says("Terms", "s (steady), t (a talker) or n (of no views),", () -> {
            dueOnly("", "stn", NONE);
            dueOnly("s00;", "stn", NONE);
            dueOnly(EIGHT.substring(0, 28), "stn", NONE);
            PartingMap x = told("s00;t05;n07");
            for (int p = 0; p < 3; p++) {
                due("person(" + p + ", 0)", x.person(p, 0), p);
            }
        });
        says("Terms", "a figure 0 to 7, the VIEWS (bits 0 to 2: on three questions),", () -> {
            dueOnly("t", "01234567", NONE);
            dueOnly("s00;n", "01234567", NONE);
            dueOnly(EIGHT.substring(0, 29), "01234567", NONE);
            for (int views = 0; views <= 7; views++) {
                due("views " + views, told("s" + views + "4").person(0, 1), views);
                for (int question = 0; question <= 2; question++) {
                    due("views " + views + ", question " + question,
                            told("s" + views + "4", question, 0, 0).at(0, 0, 1), views ^ (1 << question));
                }
            }
        });
        says("Terms", "and a figure 0 to 9, the HOUSE.", () -> {
            dueOnly("n7", "0123456789", 3);
            dueOnly("s05;t0", "012346789", 7);
            dueOnly(EIGHT.substring(0, 30), "789", LONGEST);
            dueOnly("n70", ";", NONE);
            dueOnly("s05;t06", ";", NONE);
            for (int house = 0; house <= 9; house++) {
                due("house " + house, told("s0" + house).person(0, 2), house);
                due("house " + house + " behind a quarter", told("s0" + house).at(15, 0, 0), house);
            }
        });
    }

    /** Any other byte behind the start is the fault; of the ended length a text is well, else it is not ended. */
    private static void dueOnly(String start, String bytes, int ended) {
        for (int b = 0; b <= 255; b++) {
            PartingMap x = told(start);
            x.type(b);
            int place = start.length();
            int well = place + 1 == ended ? NONE : place + 1;
            due("'" + start + "' and byte " + b + ": fault", x.fault(), bytes.indexOf(b) >= 0 ? well : place);
        }
    }

    private static void faults() {
        says("Terms", "The FAULT of the text is the place of the first byte with which it cannot go on", () -> {
            dueFault("xx", 0);
            dueFault("xs00", 0);
            dueFault("s9x", 1);
            dueFault("s0x;", 2);
            dueFault("s00x;", 3);
            dueFault("s00;xs", 4);
            dueFault("s00;s8x", 5);
            dueFault("s00;s0;s11", 6);
            dueFault("s00;s11:", 7);
            dueFault(EIGHT.substring(0, 30) + "x", 30);
        });
        says("Terms", "(an empty one is well; of one that is not ended, as behind a ;, its end),", () -> {
            for (int length = 0; length <= LONGEST; length++) {
                boolean well = length == 0 || length % 4 == 3;
                dueFault(EIGHT.substring(0, length), well ? NONE : length);
            }
        });
        says("Terms", "here also of a HOUSE that is taken already,", () -> {
            for (int house = 0; house <= 9; house++) {
                dueFault("s0" + house + ";s1" + house, 6);
            }
            dueFault("s03;s14;n23", 10);
            dueFault("s03;s14;n24", 10);
            dueFault("s03;s13;s14", 6);
            dueFault("s03;s13x", 6);
            dueFault("s03;x13", 4);
            dueFault("s03;s83", 5);
            dueFault(EIGHT.substring(0, 30) + "0", 30);
            dueFault(EIGHT.substring(0, 30) + "6", 30);
            PartingMap x = told("s03;s13");
            x.undo();
            x.type('4');
            due("another house: fault", x.fault(), NONE);
            x.wipe();
            tell(x, "s13");
            due("a house of a text that is wiped: fault", x.fault(), NONE);
        });
        // 31 bytes end with the eighth, so a ninth's first byte is never there to be the fault: it is refused.
        says("Terms", "of the first byte of a ninth.", () -> {
            PartingMap x = told(EIGHT);
            due("; behind eight", x.type(';'), FULL);
            due("a ninth", x.type('s'), FULL);
            due("fault", x.fault(), NONE);
            due("people", x.count(0), 8);
        });
        says("Terms", "With a FAULT it is as if it was empty.", () -> {
            PartingMap x = told("s05;s06;t17", 3, 2, 0, 0, 3, 1);
            x.sheet(0, 0, 3);
            long before = x.digest();
            x.type(';');
            dueNobody(x);
            x.undo();
            due("mended: digest", x.digest(), before);
            x.undo();
            dueNobody(x);
            x.type('7');
            due("mended: digest", x.digest(), before);
            x.type('x');
            dueNobody(x);
        });
    }

    private static void dueNobody(PartingMap x) {
        due("people", x.count(0), 0);
        due("sums", x.sum(0) + x.sum(1) + x.sum(2), 0);
        due("rooted", x.rooted() + x.count(6), 0);
        due("first(0)", x.first(0), NONE);
        due("first(1)", x.first(1), NONE);
        for (int house = 0; house <= 9; house++) {
            due("house(0, " + house + ")", x.house(0, house), NONE);
        }
        due("pairs", x.pairs(0, 0) + x.pairs(0, 1), 0);
        int[] answers = {x.person(0, 0), x.at(0, 0, 0), x.bored(0), x.friends(0), x.settle(0, 0), x.think(0, 0),
            x.was(0, 0), x.ask(0), x.write(0, 0)};
        for (int i = 0; i < answers.length; i++) {
            due("of person 0, call " + i, answers[i], BAD);
        }
        due("chance(5, 0, 0)", x.chance(5, 0, 0), BAD_LONG);
        due("rest(0)", x.rest(0), 0);
        due("rest(1)", x.rest(1), 0);
        due("spare(-1)", x.spare(-1), 0);
        due("never()", x.never(), (1 << x.count(2)) - 1);
        due("decades(7, 6, 0)", x.decades(7, 6, 0), 0);
        due("decades(7, 6, 1)", x.decades(7, 6, 1), 0);
    }

    private static void events() {
        says("Terms", "QUARTERS are 0 to 15.", () -> {
            for (int quarter = -2; quarter <= 17; quarter++) {
                boolean there = quarter >= 0 && quarter <= 15;
                PartingMap x = told("s05");
                due("at(" + quarter + ", 0, 0)", x.at(quarter, 0, 0), there ? 5 : BAD);
                due("house(" + quarter + ", 5)", x.house(quarter, 5), there ? 0 : BAD);
                due("pairs(" + quarter + ", 0)", x.pairs(quarter, 0), there ? 0 : BAD);
                due("event(0, " + quarter + ", 0)", x.event(0, quarter, 0), there ? 1 : BAD);
                due("seen(" + quarter + ", 0, 0)", x.seen(quarter, 0, 0), there ? 1 : BAD);
            }
        });
        says("Terms", "EVENTS, 8 at most (0 on):", () -> {
            PartingMap x = new PartingMap();
            for (int n = 1; n <= 8; n++) {
                due("event", x.event(0, 0, 0), n);
                due("the numbers of events, as bits", x.never(), (1 << n) - 1);
            }
            due("a ninth", x.event(0, 0, 0), FULL);
            due("count(2)", x.count(2), 8);
        });
        says("Terms", "a kind, a QUARTER, a PERSON (0 to 7):", () -> {
            for (int k = -1; k <= 4; k++) {
                due("event of kind " + k, new PartingMap().event(k, 0, 0), k >= 0 && k <= 3 ? 1 : BAD);
            }
            for (int q = -1; q <= 16; q++) {
                due("event in quarter " + q, new PartingMap().event(3, q, 0), q >= 0 && q <= 15 ? 1 : BAD);
            }
            for (int p = -1; p <= 8; p++) {
                due("event of person " + p, new PartingMap().event(0, 0, p), p >= 0 && p <= 7 ? 1 : BAD);
                due("holiday of person " + p, new PartingMap().event(3, 0, p), p >= 0 && p <= 7 ? 1 : BAD);
            }
        });
        says("Terms", "0 to 2 a CHANGE of that one's VIEW on this question,", () -> {
            for (int kind = 0; kind <= 2; kind++) {
                for (int p = 0; p <= 7; p++) {
                    PartingMap x = told("n00;n01;n02;n03;n04;n05;n06;n07", kind, 15, p);
                    for (int other = 0; other <= 7; other++) {
                        due("kind " + kind + " of " + p + ": views of " + other + " behind 14", x.at(14, other, 1), 0);
                        due("kind " + kind + " of " + p + ": views of " + other, x.at(15, other, 1),
                                p == other ? 1 << kind : 0);
                    }
                }
            }
        });
        says("Terms", "3 a HOLIDAY (of all, whoever is told).", () -> {
            for (int who : new int[] {0, 1, 3, 4, 7}) {
                PartingMap x = told("s05;s06;s08;s09", 3, 0, who);
                for (int p = 0; p < 4; p++) {
                    due("told to " + who + ": moved", x.at(0, p, 2), 0);
                    due("told to " + who + ": views", x.at(0, p, 1), 0);
                }
                due("told to " + who + ": dead", x.pairs(0, 1), 2);
                due("told to " + who + ": the quarter behind it", x.at(1, 0, 2), 1);
            }
            due("twice is a holiday too", told("s05;s06", 3, 0, 0, 3, 0, 1).at(0, 0, 2), 0);
            due("in quarter 15", told("s05;s16", 3, 15, 0, 0, 15, 0).sum(0), 0);
            due("in quarter 14", told("s05;s16", 3, 14, 0, 0, 15, 0).sum(0), 1);
        });
    }

    private static void newObject() {
        says("Promise 1", "No PEOPLE, no EVENTS; all SHEETS are LOST.", () -> {
            PartingMap x = new PartingMap();
            for (int what = 0; what <= 8; what++) {
                due("count(" + what + ")", x.count(what), 0);
            }
            due("person(0, 0)", x.person(0, 0), BAD);
            due("fault()", x.fault(), NONE);
            due("undo()", x.undo(), NOT);
            due("back()", x.back(), NOT);
            due("forget()", x.forget(), 0);
            dueNobody(x);
            for (int s = 0; s <= 3; s++) {
                due("lose(" + s + ")", x.lose(s), NULL);
            }
        });
        says("Promise 1", "No PEOPLE, no EVENTS;", () -> {
            PartingMap x = new PartingMap();
            PartingMap other = told("s05;s06", 0, 0, 0);
            other.sheet(0, 0, 3);
            other.seen(0, 0, 0);
            due("what was told another object: count(0)", x.count(0), 0);
            due("count(2)", x.count(2), 0);
            due("count(7)", x.count(7), 0);
            due("lose(0)", x.lose(0), NULL);
        });
    }

    private static void typing() {
        says("Promise 2", "A byte (0 to 255) comes behind the text: how many.", () -> {
            PartingMap x = new PartingMap();
            due("type(0)", x.type(0), 1);
            due("type(255)", x.type(255), 2);
            for (int n = 3; n <= LONGEST; n++) {
                due("type(127)", x.type(127), n);
            }
            x = told("s05");
            due("behind the text: sort", x.person(0, 0), 0);
            due("behind the text: house", x.person(0, 2), 5);
        });
        says("Promise 2", "BAD; FULL.", () -> {
            PartingMap x = new PartingMap();
            due("type(-1)", x.type(-1), BAD);
            due("type(256)", x.type(256), BAD);
            for (int b : FAR_OFF) {
                due("type(" + b + ")", x.type(b), BAD);
            }
            due("no byte came", x.count(1), 0);
            tell(x, EIGHT);
            due("full", x.type('s'), FULL);
            due("full, 0", x.type(0), FULL);
            due("bad ahead of full", x.type(-1), BAD);
            due("bad ahead of full", x.type(256), BAD);
            due("count(1)", x.count(1), LONGEST);
        });
        says("Promise 3", "The text is empty: how many bytes it had.", () -> {
            for (int length : new int[] {0, 1, 3, 4, 30, LONGEST}) {
                PartingMap x = told(EIGHT.substring(0, length), 3, 0, 0);
                x.seen(0, 0, 0);
                x.sheet(0, 0, 1);
                due("wipe() of " + length, x.wipe(), length);
                due("bytes then", x.count(1), 0);
                due("fault then", x.fault(), NONE);
                dueNobodyButSeen(x);
                due("events stay", x.count(2), 1);
                due("the sheet stays", x.lose(0), 1);
                due("wipe() again", x.wipe(), 0);
                due("type again", x.type('s'), 1);
            }
        });
        says("Promise 4", "The last byte of the text is undone: how many are left.", () -> {
            PartingMap x = told(EIGHT);
            for (int left = LONGEST - 1; left >= 0; left--) {
                due("undo()", x.undo(), left);
                due("people left", x.count(0), left % 4 == 3 ? (left + 1) / 4 : 0);
            }
            x = told(EIGHT);
            x.undo();
            due("room for one more", x.type('9'), LONGEST);
            due("it is the last one's house", x.person(7, 2), 9);
            due("and for no second", x.type('9'), FULL);
        });
        says("Promise 4", "NOT: it is empty.", () -> {
            due("undo() of an empty one", new PartingMap().undo(), NOT);
            PartingMap x = told("s");
            due("undo() of one byte", x.undo(), 0);
            due("undo() again", x.undo(), NOT);
            tell(x, "s00");
            x.wipe();
            due("undo() behind wipe()", x.undo(), NOT);
        });
        says("Promise 5", "The FAULT; NONE.", () -> {
            dueFault("", NONE);
            dueFault("x", 0);
            dueFault("s00", NONE);
            dueFault("s00;", 4);
            dueFault(EIGHT, NONE);
            PartingMap x = told("s0x");
            due("fault()", x.fault(), 2);
            due("fault() again", x.fault(), 2);
            x.undo();
            due("fault() of what is left", x.fault(), 2);
            x.type('0');
            due("fault() when it is mended", x.fault(), NONE);
        });
    }

    private static void dueNobodyButSeen(PartingMap x) {
        due("people then", x.count(0), 0);
        due("what was seen stays", x.count(7), 1);
        due("and can't be", x.never(), 0);
        x.forget();
        dueNobody(x);
    }

    private static void persons() {
        says("Promise 6", "Its sort (what = 0: 0 s, 1 t, 2 n), VIEWS (1), HOUSE (2) as told.", () -> {
            PartingMap x = told("s09;t70;n35;s04;s03", 0, 0, 0, 1, 0, 3);
            int[][] want = {{0, 0, 9}, {1, 7, 0}, {2, 3, 5}, {0, 0, 4}, {0, 0, 3}};
            for (int p = 0; p < want.length; p++) {
                for (int what = 0; what <= 2; what++) {
                    due("person(" + p + ", " + what + ")", x.person(p, what), want[p][what]);
                }
            }
        });
        says("Promise 6", "BAD.", () -> {
            PartingMap x = told("s09;t70");
            for (int what = 0; what <= 2; what++) {
                due("person(-1, " + what + ")", x.person(-1, what), BAD);
                due("person(2, " + what + ")", x.person(2, what), BAD);
                due("nobody: person(0, " + what + ")", new PartingMap().person(0, what), BAD);
            }
            due("person(0, -1)", x.person(0, -1), BAD);
            due("person(1, 3)", x.person(1, 3), BAD);
            for (int far : FAR_OFF) {
                due("person(" + far + ", 0)", x.person(far, 0), BAD);
                due("person(0, " + far + ")", x.person(0, far), BAD);
            }
        });
    }

    private static void eventCalls() {
        says("Promise 7", "An EVENT more: how many.", () -> {
            PartingMap x = told("s05");
            due("event(0, 0, 0)", x.event(0, 0, 0), 1);
            due("event(3, 15, 7)", x.event(3, 15, 7), 2);
            for (int n = 3; n <= 8; n++) {
                due("event(2, 15, 0)", x.event(2, 15, 0), n);
            }
            due("six changes are as none", x.at(15, 0, 1), 1);
        });
        says("Promise 7", "BAD; FULL.", () -> {
            int[][] bad = {{-1, 0, 0}, {4, 0, 0}, {0, -1, 0}, {0, 16, 0}, {0, 0, -1}, {0, 0, 8}, {3, 0, 8}, {3, 16, 0}};
            PartingMap x = new PartingMap();
            dueAll(x, bad, BAD);
            for (int far : FAR_OFF) {
                dueAll(x, new int[][] {{far, 0, 0}, {0, far, 0}, {0, 0, far}}, BAD);
            }
            due("none came", x.count(2), 0);
            for (int n = 1; n <= 8; n++) {
                x.event(0, n, 0);
            }
            dueAll(x, bad, BAD);
            dueAll(x, new int[][] {{0, 0, 0}, {3, 15, 7}}, FULL);
            due("eight are left", x.count(2), 8);
        });
        says("Promise 8", "The last EVENT is undone: how many are left.", () -> {
            PartingMap x = told("s05", 0, 3, 0, 1, 3, 0, 2, 3, 0);
            due("all three", x.at(3, 0, 1), 7);
            due("back()", x.back(), 2);
            due("the last is undone", x.at(3, 0, 1), 3);
            due("back()", x.back(), 1);
            due("the last is undone", x.at(3, 0, 1), 1);
            x = told("", 0, 0, 0, 0, 0, 0, 0, 0, 0, 0, 0, 0, 0, 0, 0, 0, 0, 0, 0, 0, 0, 0, 0, 0);
            for (int left = 7; left >= 0; left--) {
                due("back()", x.back(), left);
            }
            x = told("s05;s06", 3, 0, 0);
            x.back();
            due("a holiday is undone", x.at(0, 0, 2), 1);
        });
        says("Promise 8", "NOT: there is none.", () -> {
            PartingMap x = new PartingMap();
            due("back()", x.back(), NOT);
            x.event(0, 0, 0);
            due("back() of one", x.back(), 0);
            due("back() again", x.back(), NOT);
            due("count(2)", x.count(2), 0);
        });
    }

    private static void dueAll(PartingMap x, int[][] events, int want) {
        for (int[] e : events) {
            due("event(" + e[0] + ", " + e[1] + ", " + e[2] + ")", x.event(e[0], e[1], e[2]), want);
        }
    }

    private static void reading() {
        says("Promise 9", "EVENTS more, from a SHEET: its items, three for each, as many as are whole,", () -> {
            for (int form = 0; form <= 2; form++) {
                for (int n = 0; n <= 26; n++) {
                    PartingMap x = new PartingMap();
                    x.sheet(3, form, n);
                    due("read of " + n + " items", x.read(3), n / 3);
                    due("count(2)", x.count(2), n / 3);
                }
            }
            PartingMap x = told("s05", 2, 0, 0);
            lay(x, 0, 0, 0, 4, 0, 1, 15, 0, 2, 15);
            due("read", x.read(0), 2);
            due("more: count(2)", x.count(2), 3);
            due("behind 3", x.at(3, 0, 1), 4);
            due("behind 4", x.at(4, 0, 1), 5);
            due("behind 15", x.at(15, 0, 1), 7);
            dueItems(x, 0, 0, 0, 4, 0, 1, 15, 0, 2, 15);
            x.back();
            due("the last of them is the last event", x.at(15, 0, 1), 5);
        });
        says("Promise 9", "as long as each may be and there is room: how many came.", () -> {
            int[][] mayNotBe = {{-1, 0, 0}, {4, 0, 0}, {0, -1, 0}, {0, 16, 0}, {0, 0, -1}, {0, 0, 8}};
            for (int form = 0; form <= 2; form++) {
                for (int[] e : mayNotBe) {
                    PartingMap x = new PartingMap();
                    lay(x, 0, form, e[0], e[1], e[2], 0, 0, 0);
                    due("the first may not be", x.read(0), 0);
                    lay(x, 0, form, 3, 15, 7, e[0], e[1], e[2], 0, 0, 0);
                    due("the second may not be", x.read(0), 1);
                    due("count(2)", x.count(2), 1);
                }
            }
            PartingMap x = new PartingMap();
            lay(x, 0, 2, 256, 0, 0);
            due("an int that would be 0 as a byte", x.read(0), 0);
            x.sheet(0, 2, 27);
            due("nine: room for eight", x.read(0), 8);
            due("no room", x.read(0), 0);
            due("count(2)", x.count(2), 8);
            x.back();
            due("room for one", x.read(0), 1);
            due("count(8): that is no finding", x.count(8), 0);
        });
        says("Promise 9", "BAD; NULL.", () -> {
            PartingMap x = new PartingMap();
            due("read(-1)", x.read(-1), BAD);
            due("read(4)", x.read(4), BAD);
            for (int far : FAR_OFF) {
                due("read(" + far + ")", x.read(far), BAD);
            }
            due("count(8)", x.count(8), 0);
            for (int s = 0; s <= 3; s++) {
                due("read(" + s + ")", x.read(s), NULL);
            }
            due("count(8)", x.count(8), 1);
            x.sheet(0, 0, 3);
            x.lose(0);
            due("lost again", x.read(0), NULL);
            x.sheet(0, 2, 60);
            x.sheet(0, 2, 3);
            due("a new row of fewer items", x.read(0), 1);
        });
    }
}
