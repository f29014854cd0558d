import java.math.BigInteger;
import java.util.ArrayList;
import java.util.List;

/** Sheets and findings in Terms, and promises 29 to 36. */
final class SheetSentences extends Sentences {
    private static final int[] BAD_SHEETS = {-1, 4, LEAST_INT, MOST_INT};
    private static final int[] BAD_FORMS = {-1, 3, LEAST_INT, MOST_INT};

    private SheetSentences() {
    }

    static void all() {
        sheets();
        findings();
        makingAndLosing();
        laying();
        getting();
        copying();
        writing();
        counting();
        digesting();
    }

    private static void sheets() {
        says("Terms", "SHEETS 0 .. 3 are LOST (at first) or a row of a FORM: 0 bytes, 1 shorts, 2 ints,"
                + " of 0 to 60 items (0 at first).", () -> {
            for (int s = -1; s <= 4; s++) {
                boolean there = s >= 0 && s <= 3;
                due("lost at first: lose(" + s + ")", new PartingMap().lose(s), there ? NULL : BAD);
                for (int form = -1; form <= 3; form++) {
                    due("sheet(" + s + ", " + form + ", 1)", new PartingMap().sheet(s, form, 1),
                            there && form >= 0 && form <= 2 ? 1 : BAD);
                }
            }
            for (int form = 0; form <= 2; form++) {
                PartingMap x = new PartingMap();
                due("none", x.sheet(0, form, 0), 0);
                due("sixty", x.sheet(0, form, 60), 60);
                due("one more", x.sheet(0, form, 61), BAD);
                for (int i = 0; i < 60; i++) {
                    due("0 at first: item " + i, x.get(0, form, i), 0);
                    x.lay(0, form, i, -1);
                }
                due("no item 60", x.get(0, form, 60), LEAST_INT);
                x.sheet(0, form, 60);
                for (int i = 0; i < 60; i++) {
                    due("0 again: item " + i, x.get(0, form, i), 0);
                }
            }
            dueRange(0, 127, -128);
            dueRange(1, 32767, -32768);
            dueRange(2, MOST_INT, LEAST_INT);
        });
    }

    /** The most and the least that an item has, and how they wrap. */
    private static void dueRange(int form, int most, int least) {
        PartingMap x = new PartingMap();
        lay(x, 3, form, most, least, most + 1, least - 1, 0, -1, 1);
        dueItems(x, 3, form, most, least, least, most, 0, -1, 1);
    }

    private static void dueFinding(PartingMap x, String call, long got, int number, long want) {
        due(call, got, want);
        due(call + ": count(8)", x.count(8), number);
    }

    private static void findings() {
        says("Terms", "FINDINGS (answers -10 less the number; they change nothing but count() 8):", () -> {
            PartingMap x = new PartingMap();
            x.sheet(0, 0, 2);
            x.sheet(1, 1, 2);
            dueFinding(x, "NULL", x.lose(2), 1, -11);
            dueFinding(x, "INDEX", x.lay(0, 0, 2, 1), 2, -12);
            dueFinding(x, "CAST", x.lay(0, 1, 0, 1), 3, -13);
            dueFinding(x, "STORE", x.copy(0, 0, 1, 0, 1), 4, -14);
            dueFinding(x, "SIZE", x.sheet(0, 0, -1), 5, -15);
            dueFinding(x, "NULL again", x.lose(3), 1, -11);
            dueItems(x, 0, 0, 0, 0);
            dueItems(x, 1, 1, 0, 0);
            due("still lost", x.lose(2), NULL);
        });
        says("Terms", "1 NULL: the SHEET is LOST;", () -> {
            PartingMap x = told("s05");
            x.sheet(0, 0, 1);
            dueFinding(x, "read(1)", x.read(1), 1, NULL);
            dueFinding(x, "lose(1)", x.lose(1), 1, NULL);
            dueFinding(x, "lay(1, 0, 0, 0)", x.lay(1, 0, 0, 0), 1, NULL);
            dueFinding(x, "get(1, 0, 0)", x.get(1, 0, 0), 1, LEAST_INT);
            dueFinding(x, "copy(1, 0, 0, 0, 0)", x.copy(1, 0, 0, 0, 0), 1, NULL);
            dueFinding(x, "copy(0, 0, 1, 0, 0)", x.copy(0, 0, 1, 0, 0), 1, NULL);
            dueFinding(x, "write(0, 1)", x.write(0, 1), 1, NULL);
            x.lose(0);
            dueFinding(x, "lost again: read(0)", x.read(0), 1, NULL);
        });
        says("Terms", "2 INDEX: there is no such item;", () -> {
            for (int n : new int[] {0, 1, 60}) {
                PartingMap x = new PartingMap();
                x.sheet(0, 2, n);
                for (int i : new int[] {-1, n, n + 1, LEAST_INT, MOST_INT}) {
                    dueFinding(x, "lay(0, 2, " + i + ", 0)", x.lay(0, 2, i, 0), 2, INDEX);
                    dueFinding(x, "get(0, 2, " + i + ")", x.get(0, 2, i), 2, LEAST_INT);
                }
                if (n > 0) {
                    due("the first", x.lay(0, 2, 0, 7), 1);
                    due("the last", x.lay(0, 2, n - 1, 7), 1);
                }
            }
        });
        says("Terms", "3 CAST: it has another FORM;", () -> {
            for (int has = 0; has <= 2; has++) {
                for (int form = 0; form <= 2; form++) {
                    PartingMap x = new PartingMap();
                    x.sheet(0, has, 1);
                    due("lay as " + form, x.lay(0, form, 0, 9), has == form ? 1 : CAST);
                    due("get as " + form, x.get(0, form, 0), has == form ? 9 : LEAST_INT);
                    due("count(8)", x.count(8), has == form ? 0 : 3);
                }
            }
        });
        says("Terms", "4 STORE: unlike FORMS;", () -> {
            for (int from = 0; from <= 2; from++) {
                for (int to = 0; to <= 2; to++) {
                    PartingMap x = new PartingMap();
                    x.sheet(0, from, 1);
                    x.sheet(1, to, 1);
                    due("copy of " + from + " to " + to, x.copy(0, 0, 1, 0, 1), from == to ? 1 : STORE);
                    due("count(8)", x.count(8), from == to ? 0 : 4);
                }
            }
        });
        says("Terms", "5 SIZE: below 0.", () -> {
            PartingMap x = new PartingMap();
            dueFinding(x, "sheet(0, 0, -1)", x.sheet(0, 0, -1), 5, SIZE);
            dueFinding(x, "sheet(0, 2, least)", x.sheet(0, 2, LEAST_INT), 5, SIZE);
            due("0 is not below 0", x.sheet(0, 0, 0), 0);
        });
    }

    private static void makingAndLosing() {
        says("Promise 29", "A SHEET is a new row of a FORM with n items: n.", () -> {
            PartingMap x = new PartingMap();
            for (int n = 0; n <= 60; n++) {
                due("sheet(2, 1, " + n + ")", x.sheet(2, 1, n), n);
                due("it has so many", x.copy(2, n, 2, n, 0), 1);
                due("and no more", x.copy(2, n + 1, 2, 0, 0), INDEX);
            }
            lay(x, 0, 0, 1, 2, 3);
            due("a new row", x.sheet(0, 0, 3), 3);
            dueItems(x, 0, 0, 0, 0, 0);
            lay(x, 0, 0, 1, 2, 3);
            x.sheet(0, 0, 1);
            x.sheet(0, 0, 3);
            dueItems(x, 0, 0, 0, 0, 0);
            due("of another form", x.sheet(0, 2, 3), 3);
            dueItems(x, 0, 2, 0, 0, 0);
            lay(x, 1, 0, 9);
            x.sheet(0, 0, 1);
            dueItems(x, 1, 0, 9);
        });
        says("Promise 29", "BAD: SHEET, FORM, above 60; SIZE.", () -> {
            PartingMap x = new PartingMap();
            for (int s : BAD_SHEETS) {
                due("sheet " + s, x.sheet(s, 0, 1), BAD);
                due("sheet " + s + " ahead of SIZE", x.sheet(s, 0, -1), BAD);
            }
            for (int form : BAD_FORMS) {
                due("form " + form, x.sheet(0, form, 1), BAD);
                due("form " + form + " ahead of SIZE", x.sheet(0, form, -1), BAD);
            }
            due("above 60", x.sheet(0, 0, 61), BAD);
            due("far above 60", x.sheet(0, 0, MOST_INT), BAD);
            due("count(8)", x.count(8), 0);
            due("SIZE", x.sheet(3, 2, -1), SIZE);
            due("count(8)", x.count(8), 5);
            for (int s = 0; s <= 3; s++) {
                due("still lost: lose(" + s + ")", x.lose(s), NULL);
            }
        });
        says("Promise 30", "It is LOST: how many items it had.", () -> {
            for (int n : new int[] {0, 1, 59, 60}) {
                PartingMap x = new PartingMap();
                x.sheet(0, 1, n);
                x.sheet(1, 1, 7);
                due("lose(0) of " + n, x.lose(0), n);
                due("it is lost", x.get(0, 1, 0), LEAST_INT);
                due("count(8)", x.count(8), 1);
                due("the other is not", x.lose(1), 7);
            }
        });
        says("Promise 30", "BAD; NULL.", () -> {
            PartingMap x = new PartingMap();
            x.sheet(0, 1, 5);
            for (int s : BAD_SHEETS) {
                due("lose(" + s + ")", x.lose(s), BAD);
            }
            due("count(8)", x.count(8), 0);
            due("lost at first", x.lose(3), NULL);
            x.lose(0);
            due("lost already", x.lose(0), NULL);
            due("count(8)", x.count(8), 1);
        });
    }

    private static void laying() {
        says("Promise 31", "Item i, treated as of a FORM, becomes v (the lowest bits that it has, with its sign): 1.", () -> {
            int[] values = {0, 1, -1, 127, 128, 129, 255, 256, -128, -129, 32767, 32768, 65535, 65536, -32768, -32769,
                0x12345678, LEAST_INT, MOST_INT};
            PartingMap x = new PartingMap();
            for (int form = 0; form <= 2; form++) {
                x.sheet(form, form, 3);
            }
            for (int v : values) {
                int[] want = {v << 24 >> 24, v << 16 >> 16, v};
                for (int form = 0; form <= 2; form++) {
                    due("lay(" + form + ", " + form + ", 1, " + v + ")", x.lay(form, form, 1, v), 1);
                    due("form " + form + ", " + v, x.get(form, form, 1), want[form]);
                }
            }
            for (int form = 0; form <= 2; form++) {
                due("the item ahead", x.get(form, form, 0), 0);
                due("the item behind", x.get(form, form, 2), 0);
            }
        });
        says("Promise 31", "BAD; NULL; CAST; INDEX.", () -> {
            PartingMap x = new PartingMap();
            x.sheet(0, 0, 3);
            for (int s : BAD_SHEETS) {
                due("lay(" + s + ", 0, 0, 1)", x.lay(s, 0, 0, 1), BAD);
            }
            for (int form : BAD_FORMS) {
                due("lay(0, " + form + ", 0, 1)", x.lay(0, form, 0, 1), BAD);
                due("ahead of NULL", x.lay(1, form, 0, 1), BAD);
                due("ahead of INDEX", x.lay(0, form, 3, 1), BAD);
            }
            due("count(8)", x.count(8), 0);
            dueFinding(x, "NULL", x.lay(1, 0, 0, 1), 1, NULL);
            dueFinding(x, "NULL ahead of INDEX", x.lay(1, 0, -1, 1), 1, NULL);
            dueFinding(x, "CAST", x.lay(0, 2, 0, 1), 3, CAST);
            dueFinding(x, "CAST ahead of INDEX", x.lay(0, 1, 3, 1), 3, CAST);
            dueFinding(x, "CAST ahead of INDEX", x.lay(0, 1, -1, 1), 3, CAST);
            dueFinding(x, "INDEX", x.lay(0, 0, 3, 1), 2, INDEX);
            dueFinding(x, "INDEX", x.lay(0, 0, -1, 1), 2, INDEX);
            dueItems(x, 0, 0, 0, 0, 0);
        });
    }

    private static void getting() {
        says("Promise 32", "Item i of it.", () -> {
            PartingMap x = new PartingMap();
            lay(x, 0, 0, 5, -6, 7);
            lay(x, 3, 2, 8, LEAST_INT, MOST_INT);
            dueItems(x, 0, 0, 5, -6, 7);
            dueItems(x, 3, 2, 8, LEAST_INT, MOST_INT);
            due("an item that is the least int is no finding", x.count(8), 0);
        });
        says("Promise 32", "BAD: the least int; so are NULL, CAST, INDEX (count() 8 tells).", () -> {
            PartingMap x = new PartingMap();
            lay(x, 0, 0, 5, 6, 7);
            for (int s : BAD_SHEETS) {
                dueFinding(x, "get(" + s + ", 0, 0)", x.get(s, 0, 0), 0, LEAST_INT);
            }
            for (int form : BAD_FORMS) {
                dueFinding(x, "get(0, " + form + ", 0)", x.get(0, form, 0), 0, LEAST_INT);
                dueFinding(x, "ahead of NULL", x.get(1, form, 0), 0, LEAST_INT);
            }
            dueFinding(x, "INDEX", x.get(0, 0, 3), 2, LEAST_INT);
            dueFinding(x, "NULL", x.get(1, 0, 0), 1, LEAST_INT);
            dueFinding(x, "INDEX", x.get(0, 0, -1), 2, LEAST_INT);
            dueFinding(x, "NULL ahead of INDEX", x.get(1, 0, -1), 1, LEAST_INT);
            dueFinding(x, "CAST", x.get(0, 1, 0), 3, LEAST_INT);
            dueFinding(x, "BAD leaves it", x.get(4, 0, 0), 3, LEAST_INT);
            dueFinding(x, "INDEX", x.get(0, 0, MOST_INT), 2, LEAST_INT);
            dueFinding(x, "CAST ahead of INDEX", x.get(0, 2, 3), 3, LEAST_INT);
        });
    }

    private static PartingMap twoRows() {
        PartingMap x = new PartingMap();
        lay(x, 0, 1, 1, 2, 3, 4, 5);
        lay(x, 1, 1, 6, 7, 8);
        x.sheet(2, 2, 5);
        return x;
    }

    private static void copying() {
        says("Promise 33", "n items of SHEET s, from i on, come to SHEET t (perhaps s, as they were), from j on: 1.", () -> {
            PartingMap x = twoRows();
            due("copy(0, 1, 1, 0, 2)", x.copy(0, 1, 1, 0, 2), 1);
            dueItems(x, 1, 1, 2, 3, 8);
            dueItems(x, 0, 1, 1, 2, 3, 4, 5);
            x = twoRows();
            due("the whole of it", x.copy(1, 0, 0, 2, 3), 1);
            dueItems(x, 0, 1, 1, 2, 6, 7, 8);
            x = twoRows();
            due("one item, the last", x.copy(0, 4, 1, 2, 1), 1);
            dueItems(x, 1, 1, 6, 7, 5);
            x = twoRows();
            due("within s, backwards", x.copy(0, 1, 0, 0, 4), 1);
            dueItems(x, 0, 1, 2, 3, 4, 5, 5);
            x = twoRows();
            due("within s, onwards, as they were", x.copy(0, 0, 0, 1, 4), 1);
            dueItems(x, 0, 1, 1, 1, 2, 3, 4);
            x = twoRows();
            due("onto itself", x.copy(0, 0, 0, 0, 5), 1);
            dueItems(x, 0, 1, 1, 2, 3, 4, 5);
            x.sheet(2, 1, 60);
            x.sheet(3, 1, 60);
            x.lay(2, 1, 59, 9);
            due("sixty", x.copy(2, 0, 3, 0, 60), 1);
            due("the last of sixty", x.get(3, 1, 59), 9);
        });
        says("Promise 33", "BAD: the SHEETS; NULL: s, t; STORE;", () -> {
            PartingMap x = twoRows();
            for (int s : BAD_SHEETS) {
                due("copy(" + s + ", 0, 0, 0, 0)", x.copy(s, 0, 0, 0, 0), BAD);
                due("copy(0, 0, " + s + ", 0, 0)", x.copy(0, 0, s, 0, 0), BAD);
                due("copy(" + s + ", 0, 3, 0, 0), ahead of NULL", x.copy(s, 0, 3, 0, 0), BAD);
                due("copy(3, 0, " + s + ", 0, 0), ahead of NULL", x.copy(3, 0, s, 0, 0), BAD);
                due("copy(0, -1, " + s + ", 0, 0), ahead of INDEX", x.copy(0, -1, s, 0, 0), BAD);
            }
            due("count(8)", x.count(8), 0);
            dueFinding(x, "NULL: s", x.copy(3, 0, 0, 0, 1), 1, NULL);
            dueFinding(x, "STORE", x.copy(0, 0, 2, 0, 1), 4, STORE);
            dueFinding(x, "NULL: t", x.copy(0, 0, 3, 0, 1), 1, NULL);
            dueFinding(x, "STORE, n 0", x.copy(2, 0, 0, 0, 0), 4, STORE);
            dueFinding(x, "NULL: both", x.copy(3, 0, 3, 0, 0), 1, NULL);
            dueFinding(x, "STORE ahead of INDEX", x.copy(0, -1, 2, 9, -1), 4, STORE);
            dueFinding(x, "NULL: s, ahead of INDEX", x.copy(3, -1, 0, 9, -1), 1, NULL);
            dueFinding(x, "STORE ahead of INDEX", x.copy(2, 9, 1, 9, 9), 4, STORE);
            dueFinding(x, "NULL: t, ahead of INDEX", x.copy(0, -1, 3, 9, -1), 1, NULL);
            dueItems(x, 0, 1, 1, 2, 3, 4, 5);
            dueItems(x, 1, 1, 6, 7, 8);
            dueItems(x, 2, 2, 0, 0, 0, 0, 0);
        });
        says("Promise 33", "INDEX: below 0, not so many (with n 0, too, if i or j is above how many there are).", () -> {
            PartingMap x = twoRows();
            int[][] no = {{0, -1, 1, 0, 1}, {0, 0, 1, -1, 1}, {0, 0, 1, 0, -1}, {0, 0, 1, 0, 4}, {1, 0, 0, 0, 4},
                {0, 4, 1, 0, 2}, {0, 0, 1, 2, 2}, {0, 5, 1, 0, 1}, {0, 0, 1, 3, 1}, {0, 6, 1, 0, 0}, {0, 0, 1, 4, 0},
                {0, -1, 1, 0, 0}, {0, 0, 1, -1, 0}, {0, 0, 0, 0, 6}, {0, 1, 0, 0, 5}, {0, 0, 0, 1, 5},
                {0, 1, 0, 1, MOST_INT}, {0, MOST_INT, 0, 0, 1}, {0, 0, 0, MOST_INT, 1}, {0, MOST_INT, 1, MOST_INT, 2},
                {0, LEAST_INT, 0, 0, 1}, {0, 0, 0, LEAST_INT, 1}, {0, 0, 0, 0, LEAST_INT}, {0, 2, 1, 2, LEAST_INT},
                {0, MOST_INT, 1, 0, 0}, {0, LEAST_INT, 1, 0, 0}, {0, 1, 1, 1, -1}};
            for (int[] a : no) {
                due("copy(" + a[0] + ", " + a[1] + ", " + a[2] + ", " + a[3] + ", " + a[4] + ")",
                        x.copy(a[0], a[1], a[2], a[3], a[4]), INDEX);
            }
            due("count(8)", x.count(8), 2);
            due("n 0 at both ends", x.copy(0, 5, 1, 3, 0), 1);
            due("n 0 at both beginnings", x.copy(0, 0, 1, 0, 0), 1);
            dueItems(x, 0, 1, 1, 2, 3, 4, 5);
            dueItems(x, 1, 1, 6, 7, 8);
            x.sheet(3, 1, 0);
            due("n 0 of no items", x.copy(3, 0, 3, 0, 0), 1);
            due("n 1 of no items", x.copy(3, 0, 0, 0, 1), INDEX);
            due("n 0 behind no items", x.copy(3, 1, 0, 0, 0), INDEX);
        });
    }

    private static void writing() {
        says("Promise 34", "The HOUSE of a PERSON behind QUARTERS 0 on comes to a SHEET"
                + " (of each the lowest bits that an item has, with its sign)"
                + " from item 0 on, as many as there are items, 16 at most: how many.", () -> {
            for (int form = 0; form <= 2; form++) {
                for (int n : new int[] {0, 1, 2, 15, 16, 17, 60}) {
                    PartingMap x = told(RESTLESS);
                    x.sheet(1, form, n);
                    for (int i = 0; i < n; i++) {
                        x.lay(1, form, i, 77);
                    }
                    due("write(0, 1), " + n + " items", x.write(0, 1), Math.min(n, 16));
                    for (int i = 0; i < n; i++) {
                        due("item " + i + " of " + n, x.get(1, form, i), i > 15 ? 77 : i % 2 == 0 ? 2 : 3);
                    }
                    due("no more items", x.lose(1), n);
                }
            }
            PartingMap x = told("s05;s16;n00;n09", 0, 15, 0);
            x.sheet(0, 0, 16);
            due("write(0, 0)", x.write(0, 0), 16);
            due("behind 14", x.get(0, 0, 14), 5);
            due("behind 15", x.get(0, 0, 15), 4);
            x.write(3, 0);
            due("the last one", x.get(0, 0, 15), 9);
        });
        says("Promise 34", "BAD; NULL.", () -> {
            PartingMap x = told("s05;s16");
            x.sheet(0, 0, 16);
            for (int p : new int[] {-1, 2, 7, 8, LEAST_INT, MOST_INT}) {
                due("write(" + p + ", 0)", x.write(p, 0), BAD);
                due("write(" + p + ", 1), ahead of NULL", x.write(p, 1), BAD);
            }
            for (int s : BAD_SHEETS) {
                due("write(0, " + s + ")", x.write(0, s), BAD);
            }
            due("count(8)", x.count(8), 0);
            dueItems(x, 0, 0, 0, 0, 0, 0);
            dueFinding(x, "NULL", x.write(1, 3), 1, NULL);
            x = new PartingMap();
            x.sheet(0, 0, 16);
            due("nobody", x.write(0, 0), BAD);
        });
    }

    private static void counting() {
        says("Promise 35", "0 PEOPLE, 1 bytes of the text, 2 EVENTS, 3 to 5 sum() 0 to 2, 6 how many are ROOTED, 7 SEEN,"
                + " 8 the number of the latest FINDING (0 before any).", () -> {
            dueCounts(new PartingMap(), 0, 0, 0, 0, 0, 0, 0, 0, 0);
            PartingMap x = told(EIGHT + "xyz", 3, 0, 0);
            dueCounts(x, 8, 31, 1, 0, 0, 0, 8, 0, 0);
            dueCounts(told(ALL_STUCK), 8, 31, 0, 0, 128, 0, 8, 0, 0);
            x = told("s00;s01", 3, 0, 0, 3, 1, 0);
            x.seen(0, 0, 0);
            x.seen(0, 0, 0);
            x.seen(0, 0, 0);
            x.sheet(0, 0, -1);
            dueCounts(x, 2, 7, 2, 1, 0, 3, 1, 3, 5);
            x.sheet(0, 0, 1);
            x.lay(0, 0, 1, 0);
            dueCounts(x, 2, 7, 2, 1, 0, 3, 1, 3, 2);
            x.type(';');
            dueCounts(x, 0, 8, 2, 0, 0, 0, 0, 3, 2);
            x.lay(0, 0, 0, 0);
            x.type(256);
            x.event(4, 0, 0);
            due("neither what goes well nor another refusal is a finding", x.count(8), 2);
            PartingMap full = told(RESTLESS, 3, 15, 0);
            dueCounts(full, 3, 11, 1, 15, 0, 15, 2, 0, 0);
        });
        says("Promise 35", "BAD.", () -> {
            due("count(-1)", told("s05").count(-1), BAD);
            due("count(9)", told("s05").count(9), BAD);
            for (int far : FAR_OFF) {
                due("count(" + far + ")", told("s05").count(far), BAD);
            }
        });
    }

    private static void dueCounts(PartingMap x, int... want) {
        for (int what = 0; what < want.length; what++) {
            due("count(" + what + ")", x.count(what), want[what]);
        }
    }

    private static void digesting() {
        says("Promise 36", "h is 17; h becomes 31 h and each of (of each thing all that is told of it, then of the next one):"
                + " count() 0 to 7; fault(); of PEOPLE person() 0 to 2, of QUARTERS 0, 5, 10, 15 at(the QUARTER, it, 0 to 3),"
                + " then bored(), friends(), settle() 0, 1, think() 0, 1, was() 0, 1, ask(), chance(5, it), above, below;"
                + " of QUARTERS 0 to 15 pairs() 0, 1; of HOUSES 0 to 9 house(7, it), house(15, it);"
                + " first() 0, 1, rest() 0, 1, spare(NONE), spare(0), never(), decades(7, 6, 0 and 1);", () -> {
            PartingMap nobody = new PartingMap();
            List<Long> row = new ArrayList<>();
            addAll(row, 0, 0, 0, 0, 0, 0, 0, 0, -1);
            for (int q = 0; q <= 15; q++) {
                addAll(row, 0, 0);
            }
            for (int h = 0; h <= 9; h++) {
                addAll(row, -1, -1);
            }
            addAll(row, -1, -1, 0, 0, 0, -1, 0, 0, 0);
            due("nobody: digest()", nobody.digest(), fold(row));
            dueDigest(told(""), 0);
            dueDigest(told("s05;x"), 0);
            dueDigest(told("s05"), 1);
            PartingMap busy = told(BUSY, BUSY_EVENTS);
            busy.seen(3, 3, busy.at(3, 3, 0));
            dueDigest(busy, 8);
            dueDigest(told(RESTLESS, 2, 9, 1), 3);
            dueDigest(told(EIGHT, 2, 1, 7, 3, 0, 0), 8);
            dueDigest(told(ALL_STUCK, 1, 15, 0, 1, 15, 0, 1, 15, 0, 1, 15, 0, 1, 15, 0, 1, 15, 0, 1, 15, 0, 3, 0, 0), 8);
            PartingMap x = told("s05;s16;s24", 2, 7, 0);
            x.seen(15, 0, 5);
            dueDigest(x, 3);
            long before = x.digest();
            x.sheet(0, 0, 5);
            x.lay(0, 0, 5, 5);
            due("neither sheets nor findings are in it", x.digest(), before);
        });
        says("Promise 36", "as longs that wrap.", () -> {
            PartingMap x = told(EIGHT, 2, 1, 7, 3, 0, 0);
            List<Long> row = rowOf(x, 8);
            BigInteger h = BigInteger.valueOf(17);
            for (long v : row) {
                h = h.multiply(BigInteger.valueOf(31)).add(BigInteger.valueOf(v));
            }
            due("digest()", x.digest(), h.longValue());
            due("h has far more than 64 bits", h.bitLength() > 1000 ? 1 : 0, 1);
            due("digest() again", x.digest(), h.longValue());
        });
    }

    private static void addAll(List<Long> row, long... values) {
        for (long v : values) {
            row.add(v);
        }
    }

    private static long fold(List<Long> row) {
        long h = 17;
        for (long v : row) {
            h = 31 * h + v;
        }
        return h;
    }

    private static void dueDigest(PartingMap x, int people) {
        due("people", x.count(0), people);
        due("digest()", x.digest(), fold(rowOf(x, people)));
    }

    private static List<Long> rowOf(PartingMap x, int people) {
        List<Long> row = new ArrayList<>();
        addAll(row, x.count(0), x.count(1), x.count(2), x.count(3), x.count(4), x.count(5), x.count(6), x.count(7));
        addAll(row, x.fault());
        for (int p = 0; p < people; p++) {
            addAll(row, x.person(p, 0), x.person(p, 1), x.person(p, 2));
            for (int q : new int[] {0, 5, 10, 15}) {
                addAll(row, x.at(q, p, 0), x.at(q, p, 1), x.at(q, p, 2), x.at(q, p, 3));
            }
            addAll(row, x.bored(p), x.friends(p), x.settle(p, 0), x.settle(p, 1), x.think(p, 0), x.think(p, 1));
            addAll(row, x.was(p, 0), x.was(p, 1), x.ask(p), x.chance(5, p, 0), x.chance(5, p, 1));
        }
        for (int q = 0; q <= 15; q++) {
            addAll(row, x.pairs(q, 0), x.pairs(q, 1));
        }
        for (int h = 0; h <= 9; h++) {
            addAll(row, x.house(7, h), x.house(15, h));
        }
        addAll(row, x.first(0), x.first(1), x.rest(0), x.rest(1), x.spare(-1), x.spare(0), x.never());
        addAll(row, x.decades(7, 6, 0), x.decades(7, 6, 1));
        return row;
    }
}
