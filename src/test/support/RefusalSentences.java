import java.util.List;
import java.util.function.IntFunction;
import java.util.function.Supplier;
import java.util.function.ToLongFunction;

/** Every refusal of every act: which it is, which comes first, and that it changes nothing but what it may. */
final class RefusalSentences extends Sentences {
    /** A call that is refused, the answer, and the finding that count(8) tells of then (0: none). */
    private record Refusal(String call, ToLongFunction<PartingMap> act, long answer, int finding) {
    }

    private RefusalSentences() {
    }

    static void all() {
        firstThatFits();
        eachRefusal();
        nothingChanged();
        longs();
    }

    /** Text, events and what was seen have no room left; sheet 3 is lost. */
    private static PartingMap full(int finding) {
        PartingMap x = told("s01;t23;s02;n35;t16;s37;s58;s70", 0, 3, 0, 1, 4, 2, 2, 15, 7, 3, 0, 0, 0, 9, 4, 3, 9, 1,
                1, 2, 5, 2, 2, 3);
        for (int p = 0; p < 8; p++) {
            x.seen(2 * p, p, x.at(2 * p, p, 0));
        }
        return withSheets(x, finding);
    }

    /** There is room for more of everything. */
    private static PartingMap some(int finding) {
        PartingMap x = told("s05;s16;t29", 0, 3, 0, 1, 3, 0, 3, 5, 0);
        x.seen(3, 0, 5);
        x.seen(15, 2, 9);
        return withSheets(x, finding);
    }

    /** Nothing is told yet but three sheets. */
    private static PartingMap bare(int finding) {
        return withSheets(new PartingMap(), finding);
    }

    private static PartingMap withSheets(PartingMap x, int finding) {
        lay(x, 0, 0, 1, -2, 3);
        lay(x, 1, 1, 3, 15, 7, 0, 300, 0);
        lay(x, 2, 2, 0, 1, 2, 3, 4, 5, 6, 7, 8, 9, 10, 11, 12, 13, 14, 15, MOST_INT);
        if (finding == 1) {
            x.lose(3);
        } else if (finding == 5) {
            x.sheet(3, 0, -1);
        }
        return x;
    }

    private static void dueRefused(String state, IntFunction<PartingMap> maker, Refusal... refusals) {
        for (Refusal r : refusals) {
            for (int finding : new int[] {0, 1, 5}) {
                refused(state + ": " + r.call, () -> maker.apply(finding), r.act, r.answer, r.finding);
            }
        }
    }

    private static Refusal bad(String call, ToLongFunction<PartingMap> act) {
        return new Refusal(call, act, BAD, 0);
    }

    private static Refusal found(String call, int number, ToLongFunction<PartingMap> act) {
        return new Refusal(call, act, -10 - number, number);
    }

    private static void firstThatFits() {
        says("Terms", "Refusals, the first that fits, in the order told at each act:", () -> {
            dueRefused("full", RefusalSentences::full,
                    bad("type(256)", x -> x.type(256)),
                    bad("type(-1)", x -> x.type(-1)),
                    bad("event(4, 0, 0)", x -> x.event(4, 0, 0)),
                    bad("event(0, 16, 0)", x -> x.event(0, 16, 0)),
                    bad("event(0, 0, 8)", x -> x.event(0, 0, 8)),
                    bad("seen(16, 0, 0)", x -> x.seen(16, 0, 0)),
                    bad("seen(0, 8, 0)", x -> x.seen(0, 8, 0)),
                    bad("seen(0, 0, 10)", x -> x.seen(0, 0, 10)),
                    found("read(3), no room", 1, x -> x.read(3)));
            dueRefused("some", RefusalSentences::some,
                    bad("sheet(4, 0, -1)", x -> x.sheet(4, 0, -1)),
                    bad("sheet(0, 3, -1)", x -> x.sheet(0, 3, -1)),
                    bad("lay(3, 3, 0, 0)", x -> x.lay(3, 3, 0, 0)),
                    bad("lay(0, 3, 9, 0)", x -> x.lay(0, 3, 9, 0)),
                    bad("lay(4, 0, 9, 0)", x -> x.lay(4, 0, 9, 0)),
                    found("lay(3, 0, 9, 0)", 1, x -> x.lay(3, 0, 9, 0)),
                    found("lay(0, 1, 9, 0)", 3, x -> x.lay(0, 1, 9, 0)),
                    new Refusal("get(3, 3, 0)", x -> x.get(3, 3, 0), LEAST_INT, 0),
                    new Refusal("get(0, 3, 9)", x -> x.get(0, 3, 9), LEAST_INT, 0),
                    new Refusal("get(3, 0, 9)", x -> x.get(3, 0, 9), LEAST_INT, 1),
                    new Refusal("get(0, 1, 9)", x -> x.get(0, 1, 9), LEAST_INT, 3),
                    bad("copy(3, 0, 4, 0, 0)", x -> x.copy(3, 0, 4, 0, 0)),
                    bad("copy(4, 0, 3, 0, 0)", x -> x.copy(4, 0, 3, 0, 0)),
                    bad("copy(0, -1, -1, 0, 0)", x -> x.copy(0, -1, -1, 0, 0)),
                    found("copy(3, -1, 0, 0, 0)", 1, x -> x.copy(3, -1, 0, 0, 0)),
                    found("copy(0, 0, 3, 0, -1)", 1, x -> x.copy(0, 0, 3, 0, -1)),
                    found("copy(0, -1, 1, 0, 1)", 4, x -> x.copy(0, -1, 1, 0, 1)),
                    found("copy(0, 0, 1, 99, 1)", 4, x -> x.copy(0, 0, 1, 99, 1)),
                    bad("write(3, 3)", x -> x.write(3, 3)),
                    bad("write(-1, 3)", x -> x.write(-1, 3)));
        });
    }

    private static void eachRefusal() {
        says("Terms", "BAD -2 (a number not as told, no such thing), NULL, NOT -3 (as told), FULL -4,"
                + " other FINDINGS.", () -> {
            due("BAD", PartingMap.BAD, -2);
            due("NOT", PartingMap.NOT, -3);
            due("FULL", PartingMap.FULL, -4);
            due("NONE", PartingMap.NONE, -1);
            dueRefused("full", RefusalSentences::full,
                    new Refusal("type(0)", x -> x.type(0), FULL, 0),
                    new Refusal("type(';')", x -> x.type(';'), FULL, 0),
                    new Refusal("event(1, 1, 1)", x -> x.event(1, 1, 1), FULL, 0),
                    new Refusal("event(3, 1, 1)", x -> x.event(3, 1, 1), FULL, 0),
                    new Refusal("seen(1, 1, 1)", x -> x.seen(1, 1, 1), FULL, 0));
            dueRefused("bare", RefusalSentences::bare,
                    new Refusal("undo()", x -> x.undo(), NOT, 0),
                    new Refusal("back()", x -> x.back(), NOT, 0),
                    bad("write(0, 0)", x -> x.write(0, 0)),
                    bad("person(0, 0)", x -> x.person(0, 0)));
            numbersNotAsTold();
            dueRefused("some", RefusalSentences::some,
                    found("read(3)", 1, x -> x.read(3)),
                    found("lose(3)", 1, x -> x.lose(3)),
                    found("write(2, 3)", 1, x -> x.write(2, 3)),
                    found("lay(3, 0, 0, 1)", 1, x -> x.lay(3, 0, 0, 1)),
                    found("lay(0, 2, 0, 1)", 3, x -> x.lay(0, 2, 0, 1)),
                    found("lay(0, 0, 3, 1)", 2, x -> x.lay(0, 0, 3, 1)),
                    found("lay(0, 0, -1, 1)", 2, x -> x.lay(0, 0, -1, 1)),
                    new Refusal("get(3, 0, 0)", x -> x.get(3, 0, 0), LEAST_INT, 1),
                    new Refusal("get(0, 1, 0)", x -> x.get(0, 1, 0), LEAST_INT, 3),
                    new Refusal("get(0, 0, 3)", x -> x.get(0, 0, 3), LEAST_INT, 2),
                    found("copy(3, 0, 0, 0, 1)", 1, x -> x.copy(3, 0, 0, 0, 1)),
                    found("copy(0, 0, 3, 0, 1)", 1, x -> x.copy(0, 0, 3, 0, 1)),
                    found("copy(0, 0, 1, 0, 1)", 4, x -> x.copy(0, 0, 1, 0, 1)),
                    found("copy(2, 0, 2, 15, 3)", 2, x -> x.copy(2, 0, 2, 15, 3)),
                    found("copy(2, 15, 2, 0, 3)", 2, x -> x.copy(2, 15, 2, 0, 3)),
                    found("copy(2, 0, 2, 0, -1)", 2, x -> x.copy(2, 0, 2, 0, -1)),
                    found("sheet(0, 1, -1)", 5, x -> x.sheet(0, 1, -1)),
                    found("sheet(3, 1, least)", 5, x -> x.sheet(3, 1, LEAST_INT)));
        });
    }

    private static void numbersNotAsTold() {
        for (int off : new int[] {-1, LEAST_INT, MOST_INT, 256}) {
            dueRefused("some", RefusalSentences::some,
                    bad("type", x -> x.type(off)),
                    bad("event, kind", x -> x.event(off, 0, 0)),
                    bad("event, quarter", x -> x.event(0, off, 0)),
                    bad("event, person", x -> x.event(0, 0, off)),
                    bad("read", x -> x.read(off)),
                    bad("seen, quarter", x -> x.seen(off, 0, 0)),
                    bad("seen, person", x -> x.seen(0, off, 0)),
                    bad("seen, house", x -> x.seen(0, 0, off)),
                    bad("sheet", x -> x.sheet(off, 0, 1)),
                    bad("sheet, form", x -> x.sheet(0, off, 1)),
                    bad("lose", x -> x.lose(off)),
                    bad("lay", x -> x.lay(off, 0, 0, 1)),
                    bad("lay, form", x -> x.lay(0, off, 0, 1)),
                    bad("copy, s", x -> x.copy(off, 0, 0, 0, 1)),
                    bad("copy, t", x -> x.copy(0, 0, off, 0, 1)),
                    bad("write, person", x -> x.write(off, 0)),
                    bad("write, sheet", x -> x.write(0, off)),
                    new Refusal("get", x -> x.get(off, 0, 0), LEAST_INT, 0),
                    new Refusal("get, form", x -> x.get(0, off, 0), LEAST_INT, 0));
        }
        dueRefused("some", RefusalSentences::some,
                bad("event(4, 0, 0)", x -> x.event(4, 0, 0)),
                bad("event(0, 16, 0)", x -> x.event(0, 16, 0)),
                bad("event(0, 0, 8)", x -> x.event(0, 0, 8)),
                bad("read(4)", x -> x.read(4)),
                bad("seen(16, 0, 0)", x -> x.seen(16, 0, 0)),
                bad("seen(0, 8, 0)", x -> x.seen(0, 8, 0)),
                bad("seen(0, 0, 10)", x -> x.seen(0, 0, 10)),
                bad("sheet(4, 0, 1)", x -> x.sheet(4, 0, 1)),
                bad("sheet(0, 3, 1)", x -> x.sheet(0, 3, 1)),
                bad("sheet(0, 0, 61)", x -> x.sheet(0, 0, 61)),
                bad("lose(4)", x -> x.lose(4)),
                bad("lay(0, 3, 0, 1)", x -> x.lay(0, 3, 0, 1)),
                bad("copy(4, 0, 0, 0, 1)", x -> x.copy(4, 0, 0, 0, 1)),
                bad("write(3, 0)", x -> x.write(3, 0)),
                bad("write(0, 4)", x -> x.write(0, 4)));
    }

    private static void nothingChanged() {
        says("Terms", "They change nothing (FINDINGS but count() 8).", () -> {
            List<Supplier<PartingMap>> makers = List.of(() -> full(1), () -> some(5), () -> bare(0),
                    () -> withSheets(told(BUSY, BUSY_EVENTS), 0), () -> withSheets(told(RESTLESS, 0, 5, 1), 5));
            for (Supplier<PartingMap> maker : makers) {
                refusedQuestions(maker);
                answeredQuestions(maker);
            }
        });
    }

    /** Persons, quarters, houses and the rest just outside, in the calls that only ask. */
    private static void refusedQuestions(Supplier<PartingMap> maker) {
        for (int off : new int[] {-1, 17}) {
            refused("person", maker, x -> x.person(off, 0), BAD, 0);
            refused("person", maker, x -> x.person(0, off), BAD, 0);
            refused("at", maker, x -> x.at(off, 0, 0), BAD, 0);
            refused("at", maker, x -> x.at(0, off, 0), BAD, 0);
            refused("at", maker, x -> x.at(0, 0, off), BAD, 0);
            refused("house", maker, x -> x.house(off, 0), BAD, 0);
            refused("house", maker, x -> x.house(0, off), BAD, 0);
            refused("pairs", maker, x -> x.pairs(off, 0), BAD, 0);
            refused("pairs", maker, x -> x.pairs(0, off), BAD, 0);
            refused("bored", maker, x -> x.bored(off), BAD, 0);
            refused("sum", maker, x -> x.sum(off), BAD, 0);
            refused("first", maker, x -> x.first(off), BAD, 0);
            refused("friends", maker, x -> x.friends(off), BAD, 0);
            refused("settle", maker, x -> x.settle(off, 0), BAD, 0);
            refused("settle", maker, x -> x.settle(0, off), BAD, 0);
            refused("think", maker, x -> x.think(off, 0), BAD, 0);
            refused("think", maker, x -> x.think(0, off), BAD, 0);
            refused("rest", maker, x -> x.rest(off), BAD, 0);
            refused("spare", maker, x -> x.spare(off - 1), BAD, 0);
            refused("was", maker, x -> x.was(off, 0), BAD, 0);
            refused("was", maker, x -> x.was(0, off), BAD, 0);
            refused("ask", maker, x -> x.ask(off), BAD, 0);
            refused("chance", maker, x -> x.chance(off, 0, 0), BAD_LONG, 0);
            refused("chance", maker, x -> x.chance(0, off, 0), BAD_LONG, 0);
            refused("chance", maker, x -> x.chance(0, 0, off), BAD_LONG, 0);
            refused("decades", maker, x -> x.decades(0, off, 0), BAD, 0);
            refused("decades", maker, x -> x.decades(0, 0, off), BAD, 0);
            refused("count", maker, x -> x.count(off), BAD, 0);
        }
    }

    /** What only asks. */
    private static final List<ToLongFunction<PartingMap>> QUESTIONS = List.of(
            x -> x.fault(), x -> x.person(0, 0), x -> x.at(15, 0, 0), x -> x.house(15, 0), x -> x.pairs(15, 0),
            x -> x.bored(0), x -> x.sum(0), x -> x.first(0), x -> x.rooted(), x -> x.friends(0),
            x -> x.settle(0, 0), x -> x.settle(0, 1), x -> x.settle(1, 1), x -> x.think(0, 0), x -> x.think(0, 1),
            x -> x.think(1, 1), x -> x.rest(0), x -> x.rest(1), x -> x.spare(-1), x -> x.spare(0), x -> x.spare(1),
            x -> x.never(), x -> x.was(0, 0), x -> x.was(1, 1), x -> x.ask(0), x -> x.ask(1), x -> x.chance(5, 0, 0),
            x -> x.chance(9, 1, 1), x -> x.decades(7, 8, 0), x -> x.decades(-7, 3, 1), x -> x.get(0, 0, 0),
            x -> x.copy(0, 0, 0, 0, 0), x -> x.count(3), x -> x.digest());

    /** A question changes nothing when it is answered, either; nor does it matter what was asked before. */
    private static void answeredQuestions(Supplier<PartingMap> maker) {
        for (int q = 0; q < QUESTIONS.size(); q++) {
            changesNothing("question " + q, maker, QUESTIONS.get(q));
            for (int before = 0; before < QUESTIONS.size(); before++) {
                PartingMap x = maker.get();
                QUESTIONS.get(before).applyAsLong(x);
                due("question " + q + " behind question " + before, QUESTIONS.get(q).applyAsLong(x),
                        QUESTIONS.get(q).applyAsLong(maker.get()));
            }
        }
    }

    private static void longs() {
        says("Terms", "Where the answer is a long, a refusal -x is the least long and x more.", () -> {
            due("chance(-1, 0, 0)", some(0).chance(-1, 0, 0), -9223372036854775806L);
            due("chance(17, 0, 1)", some(0).chance(17, 0, 1), -9223372036854775806L);
            due("chance(0, 3, 0)", some(0).chance(0, 3, 0), -9223372036854775806L);
            due("chance(0, 0, 2)", some(0).chance(0, 0, 2), -9223372036854775806L);
            due("nobody", new PartingMap().chance(0, 0, 0), -9223372036854775806L);
        });
    }
}
