import java.util.function.Consumer;
import java.util.function.ToIntFunction;

/**
 * Terms: every refusal of every call, which one is answered where two fit, and that a refused call changes
 * nothing but finding(), findings(). Beside each object stands a twin that was not called so.
 */
public final class RefusalsTest {
    private static final int NO_FINDING = 0, NOTHING = 1, BEYOND = 2, UNLIKE = 3, NOUGHT = 4, SIZE = 5;
    private static final int MIN = Integer.MIN_VALUE, MAX = Integer.MAX_VALUE;
    private static final int[] NO_ROW = {-1, 6, MIN, MAX}, NO_TEXT = {-1, 4, MIN, MAX}, NO_SHIP = {-1, 5, MIN, MAX};
    private static final int[] NO_BERTH = {-1, 6, MIN, MAX};

    private final Due due = new Due("RefusalsTest");

    public static void main(String[] args) {
        RefusalsTest test = new RefusalsTest();
        test.rows();
        test.copies();
        test.texts();
        test.ships();
        test.moves();
        test.papersOfDeeds();
        test.tidesAndYears();
        test.undoneAndKept();
        test.whoLiesWhere();
        test.orders();
        test.yearsAndPapers();
        test.kinds();
        test.turnsAndChances();
        test.counts();
        test.due.end();
    }

    // ---- the states that are refused in

    private static void write(BerthAges x, int t, String signs) {
        x.text(t, signs.length());
        for (int i = 0; i < signs.length(); i++) {
            x.put(t, i, signs.charAt(i));
        }
    }

    /** Rows 0 (three ints), 1 (none), 2 (a pair); texts 0 (a harbour), 1 (a fault), 2 (no bytes); no ships. */
    private static void bare(BerthAges x) {
        x.row(0, 3);
        x.lay(0, 0, 7);
        x.lay(0, 1, 8);
        x.row(1, 0);
        x.row(2, 2);
        write(x, 0, "h504 s20009 g10009 b60100 p00000 r30900");
        write(x, 1, "x504 s20009");
        x.text(2, 0);
        x.tear(5);
        x.mean(5);
        x.mean(1);
        x.at(0, 3);
        x.at(0, 1);
    }

    /** From the inn on: 3 (25 years), 2 (20), 1 (a ghost); 0 (30), 4 (90) outside; 1 hour of 4 is left. */
    private static void moored(BerthAges x) {
        bare(x);
        x.harbour(0);
        x.come(3);
        x.keep(1);
        x.come(2);
        x.come(1);
        x.keep(2);
        x.odds(1, 0, 5);
        x.at(0, 1);
    }

    /** As moored, with 40 deeds and all hours left. */
    private static void full(BerthAges x) {
        moored(x);
        for (int d = 3; d < 40; d++) {
            x.tide();
        }
    }

    /** As full, but 2 hours are left, as many as too few. */
    private static void fullAndSpent(BerthAges x) {
        full(x);
        x.undo(38);
        x.leave(1);
        x.come(1);
    }

    private static void withTea(BerthAges x) {
        moored(x);
        for (int cup = 0; cup < 4; cup++) {
            x.tea(0);
        }
    }

    private static void paid(BerthAges x) {
        moored(x);
        x.pay(1);
    }

    private static void filled(BerthAges x) {
        for (int d = x.count(2); d < 40; d++) {
            x.tide();
        }
    }

    /** A row 4 of these ints behind a state. */
    private static Consumer<BerthAges> told(Consumer<BerthAges> state, int... ints) {
        return state.andThen(x -> {
            x.row(4, ints.length);
            for (int i = 0; i < ints.length; i++) {
                x.lay(4, i, ints[i]);
            }
            x.at(0, 1);
        });
    }

    // ---- one refused call

    private void bad(String name, Consumer<BerthAges> state, ToIntFunction<BerthAges> call) {
        refused(name, state, call, BerthAges.BAD, NO_FINDING);
    }

    private void finds(String name, Consumer<BerthAges> state, ToIntFunction<BerthAges> call, int finding) {
        refused(name, state, call, BerthAges.FINDING, finding);
    }

    private void refused(String name, Consumer<BerthAges> state, ToIntFunction<BerthAges> call, int answer) {
        refused(name, state, call, answer, NO_FINDING);
    }

    private void refused(String name, Consumer<BerthAges> state, ToIntFunction<BerthAges> call, int answer, int finding) {
        BerthAges x = new BerthAges();
        BerthAges twin = new BerthAges();
        state.accept(x);
        state.accept(twin);
        due.is(name, call.applyAsInt(x), answer);
        due.is(name + ": finding()", x.finding(), finding == NO_FINDING ? twin.finding() : finding);
        for (int f = 1; f <= 5; f++) {
            due.is(name + ": findings(" + f + ")", x.findings(f), twin.findings(f) + (f == finding ? 1 : 0));
        }
        due.is(name + ": asked()", x.asked(), twin.asked());
        due.is(name + ": upper()", x.upper(), twin.upper());
        due.is(name + ": lower()", x.lower(), twin.lower());
        due.is(name + ": digest()", x.digest(), twin.digest());
        sameBehind(name, x, twin);
    }

    /** What no count tells, who has paid, deeds, kept harbours: shown by going on from them. */
    private void sameBehind(String name, BerthAges x, BerthAges twin) {
        for (int i = 0; i < x.count(0); i++) {
            due.is(name + ": PAID of " + i, x.mark(i, 5), twin.mark(i, 5));
            due.is(name + ": duel(5)", x.duel(5), twin.duel(5));
        }
        for (int deeds = x.count(2); deeds >= 0; deeds -= 9) {
            due.is(name + ": undo(" + deeds + ")", x.undo(deeds), twin.undo(deeds));
            due.is(name + ": DEEDS as they were at " + deeds, x.digest(), twin.digest());
        }
        for (int k = 0; k < 3; k++) {
            due.is(name + ": on(" + k + ")", x.on(k), twin.on(k));
            due.is(name + ": kept in " + k, x.digest(), twin.digest());
        }
        due.is(name + ": tide()", x.tide(), twin.tide());
        due.is(name + ": hours LEFT by a TIDE", x.count(3), twin.count(3));
    }

    // ---- promises 2 to 7

    private void rows() {
        for (int r : NO_ROW) {
            bad("row(" + r + ", 1)", RefusalsTest::moored, x -> x.row(r, 1));
            bad("row(" + r + ", -1): BAD ahead of SIZE", RefusalsTest::moored, x -> x.row(r, -1));
            bad("lay(" + r + ", 0, 1)", RefusalsTest::moored, x -> x.lay(r, 0, 1));
            bad("lay(" + r + ", -1, 1): BAD ahead of BEYOND", RefusalsTest::moored, x -> x.lay(r, -1, 1));
            bad("at(" + r + ", 0)", RefusalsTest::moored, x -> x.at(r, 0));
            bad("at(" + r + ", -1): BAD ahead of BEYOND", RefusalsTest::moored, x -> x.at(r, -1));
            bad("tear(" + r + ")", RefusalsTest::moored, x -> x.tear(r));
            bad("mean(" + r + ")", RefusalsTest::moored, x -> x.mean(r));
        }
        bad("row(0, 41)", RefusalsTest::moored, x -> x.row(0, 41));
        bad("row(3, MAX)", RefusalsTest::moored, x -> x.row(3, MAX));
        finds("row(0, -1)", RefusalsTest::moored, x -> x.row(0, -1), SIZE);
        finds("row(3, MIN)", RefusalsTest::moored, x -> x.row(3, MIN), SIZE);
        finds("tear(3)", RefusalsTest::moored, x -> x.tear(3), NOTHING);
        finds("mean(3)", RefusalsTest::moored, x -> x.mean(3), NOTHING);
        finds("mean(1)", RefusalsTest::moored, x -> x.mean(1), NOUGHT);
        for (int i : new int[] {3, -1, MIN, MAX}) {
            finds("lay(0, " + i + ", 1)", RefusalsTest::moored, x -> x.lay(0, i, 1), BEYOND);
            finds("at(0, " + i + ")", RefusalsTest::moored, x -> x.at(0, i), BEYOND);
            finds("lay(3, " + i + ", 1): NOTHING ahead of BEYOND", RefusalsTest::moored, x -> x.lay(3, i, 1), NOTHING);
            finds("at(3, " + i + "): NOTHING ahead of BEYOND", RefusalsTest::moored, x -> x.at(3, i), NOTHING);
        }
        finds("lay(1, 0, 1) of an empty ROW", RefusalsTest::moored, x -> x.lay(1, 0, 1), BEYOND);
        finds("at(1, 0) of an empty ROW", RefusalsTest::moored, x -> x.at(1, 0), BEYOND);
        finds("lay(3, 0, 1)", RefusalsTest::moored, x -> x.lay(3, 0, 1), NOTHING);
        finds("at(3, 0)", RefusalsTest::moored, x -> x.at(3, 0), NOTHING);
    }

    private void copies() {
        for (int r : NO_ROW) {
            bad("copy from ROW " + r, RefusalsTest::moored, x -> x.copy(r, 0, 0, 0, 1));
            bad("copy to ROW " + r, RefusalsTest::moored, x -> x.copy(0, 0, r, 0, 1));
            bad("copy from " + r + ": BAD ahead of SIZE", RefusalsTest::moored, x -> x.copy(r, 0, 0, 0, -1));
            bad("copy to " + r + ": BAD ahead of SIZE", RefusalsTest::moored, x -> x.copy(0, 0, r, 0, -1));
            bad("copy from " + r + ": BAD ahead of NOTHING", RefusalsTest::moored, x -> x.copy(r, 0, 3, 0, 1));
            bad("copy to " + r + ": BAD ahead of NOTHING", RefusalsTest::moored, x -> x.copy(3, 0, r, 0, 1));
            bad("copy to " + r + ": BAD ahead of BEYOND", RefusalsTest::moored, x -> x.copy(0, 4, r, 0, 1));
        }
        copyFinds("-1 places", 0, 0, 2, 0, -1, SIZE);
        copyFinds("MIN places", 0, 0, 2, 0, MIN, SIZE);
        copyFinds("SIZE ahead of NOTHING (from)", 3, 0, 2, 0, -1, SIZE);
        copyFinds("SIZE ahead of NOTHING (to)", 0, 0, 3, 0, -1, SIZE);
        copyFinds("SIZE ahead of BEYOND", 0, 9, 2, 9, -1, SIZE);
        copyFinds("from a missing ROW", 3, 0, 2, 0, 1, NOTHING);
        copyFinds("to a missing ROW", 0, 0, 3, 0, 1, NOTHING);
        copyFinds("no places from a missing ROW", 3, 0, 2, 0, 0, NOTHING);
        copyFinds("no places to a missing ROW", 0, 0, 3, 0, 0, NOTHING);
        copyFinds("NOTHING (to) ahead of BEYOND (from)", 0, 4, 3, 0, 1, NOTHING);
        copyFinds("NOTHING (from) ahead of BEYOND (to)", 3, 0, 2, 3, 1, NOTHING);
        copyFinds("more than are there", 0, 1, 0, 0, 3, BEYOND);
        copyFinds("more than there is place for", 0, 0, 2, 0, 3, BEYOND);
        copyFinds("to a place too far on", 0, 0, 2, 1, 2, BEYOND);
        copyFinds("from place -1", 0, -1, 2, 0, 1, BEYOND);
        copyFinds("to place -1", 0, 0, 2, -1, 1, BEYOND);
        copyFinds("one from an empty ROW", 1, 0, 0, 0, 1, BEYOND);
        copyFinds("one to an empty ROW", 0, 0, 1, 0, 1, BEYOND);
        copyFinds("none from behind the end", 0, 4, 2, 0, 0, BEYOND);
        copyFinds("none to behind the end", 0, 0, 2, 3, 0, BEYOND);
        copyFinds("none from place -1", 0, -1, 2, 0, 0, BEYOND);
        copyFinds("from 1, MAX of them: the sum wraps", 0, 1, 2, 0, MAX, BEYOND);
        copyFinds("to 1, MAX of them: the sum wraps", 0, 0, 2, 1, MAX, BEYOND);
        copyFinds("from MAX one: the sum wraps", 0, MAX, 2, 0, 1, BEYOND);
        copyFinds("to MAX one: the sum wraps", 0, 0, 2, MAX, 1, BEYOND);
        copyFinds("from MIN", 0, MIN, 2, 0, 1, BEYOND);
        copyFinds("to MIN", 0, 0, 2, MIN, 1, BEYOND);
        copyFinds("all MAX", 0, MAX, 2, MAX, MAX, BEYOND);
    }

    private void copyFinds(String name, int r, int i, int to, int j, int n, int finding) {
        finds("copy: " + name, RefusalsTest::moored, x -> x.copy(r, i, to, j, n), finding);
    }

    // ---- promises 8 to 11

    private void texts() {
        for (int t : NO_TEXT) {
            bad("text(" + t + ", 1)", RefusalsTest::moored, x -> x.text(t, 1));
            bad("text(" + t + ", -1): BAD ahead of SIZE", RefusalsTest::moored, x -> x.text(t, -1));
            bad("put(" + t + ", 0, 1)", RefusalsTest::moored, x -> x.put(t, 0, 1));
            bad("put(" + t + ", -1, 1): BAD ahead of BEYOND", RefusalsTest::moored, x -> x.put(t, -1, 1));
            bad("fault(" + t + ")", RefusalsTest::moored, x -> x.fault(t));
            bad("harbour(" + t + ")", RefusalsTest::moored, x -> x.harbour(t));
        }
        bad("text(0, 61)", RefusalsTest::moored, x -> x.text(0, 61));
        bad("text(3, MAX)", RefusalsTest::moored, x -> x.text(3, MAX));
        finds("text(0, -1)", RefusalsTest::moored, x -> x.text(0, -1), SIZE);
        finds("text(3, MIN)", RefusalsTest::moored, x -> x.text(3, MIN), SIZE);
        for (int i : new int[] {39, -1, MIN, MAX}) {
            finds("put(0, " + i + ", 1)", RefusalsTest::moored, x -> x.put(0, i, 1), BEYOND);
            finds("put(3, " + i + ", 1): NOTHING ahead of BEYOND", RefusalsTest::moored, x -> x.put(3, i, 1), NOTHING);
        }
        finds("put(2, 0, 1) of an empty TEXT", RefusalsTest::moored, x -> x.put(2, 0, 1), BEYOND);
        finds("put(3, 0, 1)", RefusalsTest::moored, x -> x.put(3, 0, 1), NOTHING);
        finds("fault(3)", RefusalsTest::moored, x -> x.fault(3), NOTHING);
        finds("harbour(3): NOTHING, not STATE", RefusalsTest::moored, x -> x.harbour(3), NOTHING);
        finds("harbour(3) without SHIPS", RefusalsTest::bare, x -> x.harbour(3), NOTHING);
        refused("harbour(1), a FAULT at 0", RefusalsTest::moored, x -> x.harbour(1), BerthAges.STATE);
        refused("harbour(2), an empty TEXT", RefusalsTest::moored, x -> x.harbour(2), BerthAges.STATE);
        refused("harbour(1) without SHIPS", RefusalsTest::bare, x -> x.harbour(1), BerthAges.STATE);
        Consumer<BerthAges> cut = state -> {
            moored(state);
            state.put(0, 38, ' ');
        };
        refused("harbour(0), a FAULT in the last SHIP", cut, x -> x.harbour(0), BerthAges.STATE);
    }

    // ---- promises 12 to 14

    private void ships() {
        for (int i : NO_SHIP) {
            bad("ship(" + i + ", 0)", RefusalsTest::moored, x -> x.ship(i, 0));
            bad("mark(" + i + ", 1)", RefusalsTest::moored, x -> x.mark(i, 1));
            bad("age(" + i + ", 50)", RefusalsTest::moored, x -> x.age(i, 50));
        }
        bad("ship(0, 0) without SHIPS", RefusalsTest::bare, x -> x.ship(0, 0));
        bad("mark(0, 1) without SHIPS", RefusalsTest::bare, x -> x.mark(0, 1));
        bad("age(0, 50) without SHIPS", RefusalsTest::bare, x -> x.age(0, 50));
        for (int what : new int[] {-1, 9, MIN, MAX}) {
            bad("ship(0, " + what + ")", RefusalsTest::moored, x -> x.ship(0, what));
        }
        for (int year : new int[] {-1, 1000, MIN, MAX}) {
            bad("age(0, " + year + ")", RefusalsTest::moored, x -> x.age(0, year));
        }
        for (int kind : new int[] {-1, 0, 6, MIN, MAX}) {
            for (int i = 0; i < 5; i++) {
                int one = i;
                bad("mark(" + i + ", " + kind + ")", RefusalsTest::moored, x -> x.mark(one, kind));
            }
        }
        // By ship: the kinds that she is of, as bits.
        int[] kindsOf = {0, 1 << 3 | 1 << 5, 1 << 1, 1 << 2, 1 << 3};
        for (int i = 0; i < 5; i++) {
            for (int kind = 1; kind <= 5; kind++) {
                int one = i;
                int other = kind;
                if ((kindsOf[i] >> kind & 1) == 0) {
                    finds("mark(" + i + ", " + kind + ")", RefusalsTest::moored, x -> x.mark(one, other), UNLIKE);
                }
            }
        }
    }

    // ---- promises 15 and 16

    private void moves() {
        for (int i : NO_SHIP) {
            bad("come(" + i + ")", RefusalsTest::moored, x -> x.come(i));
            bad("leave(" + i + ")", RefusalsTest::moored, x -> x.leave(i));
            bad("come(" + i + "): BAD ahead of FULL", RefusalsTest::full, x -> x.come(i));
            bad("leave(" + i + "): BAD ahead of FULL", RefusalsTest::full, x -> x.leave(i));
        }
        bad("come(0) without SHIPS", RefusalsTest::bare, x -> x.come(0));
        bad("leave(0) without SHIPS", RefusalsTest::bare, x -> x.leave(0));
        refused("come(1), who is IN, 1 hour", RefusalsTest::moored, x -> x.come(1), BerthAges.STATE);
        refused("come(3): STATE ahead of SPENT", RefusalsTest::moored, x -> x.come(3), BerthAges.STATE);
        refused("leave(0): STATE ahead of SPENT", RefusalsTest::moored, x -> x.leave(0), BerthAges.STATE);
        refused("come(0): 4 hours, 1 is LEFT", RefusalsTest::moored, x -> x.come(0), BerthAges.SPENT);
        refused("leave(2): 2 hours, 1 is LEFT", RefusalsTest::moored, x -> x.leave(2), BerthAges.SPENT);
        refused("come(0), 40 DEEDS", RefusalsTest::full, x -> x.come(0), BerthAges.FULL);
        refused("leave(3), 40 DEEDS", RefusalsTest::full, x -> x.leave(3), BerthAges.FULL);
        refused("come(3): STATE ahead of FULL", RefusalsTest::full, x -> x.come(3), BerthAges.STATE);
        refused("leave(0): STATE ahead of FULL", RefusalsTest::full, x -> x.leave(0), BerthAges.STATE);
        refused("come(0): SPENT ahead of FULL", RefusalsTest::fullAndSpent, x -> x.come(0), BerthAges.SPENT);
        refused("leave(3): SPENT ahead of FULL", RefusalsTest::fullAndSpent, x -> x.leave(3), BerthAges.SPENT);
        refused("come(3): STATE ahead of both", RefusalsTest::fullAndSpent, x -> x.come(3), BerthAges.STATE);
        refused("leave(0): STATE ahead of both", RefusalsTest::fullAndSpent, x -> x.leave(0), BerthAges.STATE);
    }

    // ---- promises 17 and 18

    private void papersOfDeeds() {
        for (int i : NO_SHIP) {
            bad("pay(" + i + ")", RefusalsTest::moored, x -> x.pay(i));
            bad("tea(" + i + ")", RefusalsTest::moored, x -> x.tea(i));
            bad("pay(" + i + "): BAD ahead of FULL", RefusalsTest::full, x -> x.pay(i));
            bad("tea(" + i + "): BAD ahead of FULL", RefusalsTest::full, x -> x.tea(i));
        }
        bad("pay(0) without SHIPS", RefusalsTest::bare, x -> x.pay(0));
        bad("tea(0) without SHIPS", RefusalsTest::bare, x -> x.tea(0));
        for (int i : new int[] {0, 2, 3, 4}) {
            finds("pay(" + i + "), no GHOST", RefusalsTest::moored, x -> x.pay(i), UNLIKE);
            finds("pay(" + i + "): UNLIKE ahead of FULL", RefusalsTest::full, x -> x.pay(i), UNLIKE);
        }
        Consumer<BerthAges> paid = RefusalsTest::paid;
        Consumer<BerthAges> withTea = RefusalsTest::withTea;
        refused("pay(1) again", paid, x -> x.pay(1), BerthAges.STATE);
        refused("pay(1): STATE ahead of FULL", paid.andThen(RefusalsTest::filled), x -> x.pay(1), BerthAges.STATE);
        refused("pay(1), 40 DEEDS", RefusalsTest::full, x -> x.pay(1), BerthAges.FULL);
        refused("tea(0) at 20", withTea, x -> x.tea(0), BerthAges.STATE);
        refused("tea(0): STATE ahead of FULL", withTea.andThen(RefusalsTest::filled), x -> x.tea(0), BerthAges.STATE);
        refused("tea(0), 40 DEEDS", RefusalsTest::full, x -> x.tea(0), BerthAges.FULL);
    }

    // ---- promises 19 and 20

    private void tidesAndYears() {
        refused("tide() without SHIPS", RefusalsTest::bare, BerthAges::tide, BerthAges.STATE);
        refused("year() without SHIPS", RefusalsTest::bare, BerthAges::year, BerthAges.STATE);
        refused("tide(), 40 DEEDS", RefusalsTest::full, BerthAges::tide, BerthAges.FULL);
        refused("year(), 40 DEEDS", RefusalsTest::full, BerthAges::year, BerthAges.FULL);
    }

    // ---- promises 21 to 23

    private void undoneAndKept() {
        for (int n : new int[] {-1, 4, 5, 40, 41, MIN, MAX}) {
            bad("undo(" + n + ") of 3", RefusalsTest::moored, x -> x.undo(n));
        }
        for (int n : new int[] {-1, 41, 42, MIN, MAX}) {
            bad("undo(" + n + ") of 40", RefusalsTest::full, x -> x.undo(n));
        }
        for (int n : new int[] {-1, 1, 2, MIN, MAX}) {
            bad("undo(" + n + ") without SHIPS", RefusalsTest::bare, x -> x.undo(n));
        }
        for (int k : new int[] {-1, 3, MIN, MAX}) {
            bad("keep(" + k + ")", RefusalsTest::moored, x -> x.keep(k));
            bad("on(" + k + ")", RefusalsTest::moored, x -> x.on(k));
            bad("keep(" + k + "): BAD ahead of STATE", RefusalsTest::bare, x -> x.keep(k));
            bad("on(" + k + ") without SHIPS", RefusalsTest::bare, x -> x.on(k));
        }
        for (int k = 0; k < 3; k++) {
            int place = k;
            refused("keep(" + k + ") without SHIPS", RefusalsTest::bare, x -> x.keep(place), BerthAges.STATE);
            finds("on(" + k + ") without SHIPS", RefusalsTest::bare, x -> x.on(place), NOTHING);
        }
        finds("on(0), nothing is kept there", RefusalsTest::moored, x -> x.on(0), NOTHING);
    }

    // ---- promises 24 to 26

    private void whoLiesWhere() {
        for (int r : NO_ROW) {
            bad("berths(" + r + ")", RefusalsTest::moored, x -> x.berths(r));
            bad("berths(" + r + "): BAD ahead of STATE", RefusalsTest::bare, x -> x.berths(r));
        }
        for (int i : NO_SHIP) {
            bad("hours(" + i + ")", RefusalsTest::moored, x -> x.hours(i));
        }
        bad("hours(0) without SHIPS", RefusalsTest::bare, x -> x.hours(0));
        refused("berths(0) without SHIPS", RefusalsTest::bare, x -> x.berths(0), BerthAges.STATE);
        refused("berths(3) without SHIPS", RefusalsTest::bare, x -> x.berths(3), BerthAges.STATE);
        refused("ground() without SHIPS", RefusalsTest::bare, BerthAges::ground, BerthAges.STATE);
    }

    // ---- promises 27, 28 and 32

    private void orders() {
        for (int r : NO_ROW) {
            bad("enter(" + r + ")", RefusalsTest::moored, x -> x.enter(r));
            bad("order(" + r + ")", RefusalsTest::moored, x -> x.order(r));
            bad("wrong(" + r + ")", RefusalsTest::moored, x -> x.wrong(r));
            bad("enter(" + r + "): BAD ahead of STATE", RefusalsTest::bare, x -> x.enter(r));
            bad("order(" + r + "): BAD ahead of STATE", RefusalsTest::bare, x -> x.order(r));
            bad("wrong(" + r + "): BAD ahead of STATE", RefusalsTest::bare, x -> x.wrong(r));
        }
        refused("enter(0) without SHIPS", RefusalsTest::bare, x -> x.enter(0), BerthAges.STATE);
        refused("order(1) without SHIPS", RefusalsTest::bare, x -> x.order(1), BerthAges.STATE);
        refused("wrong(1) without SHIPS", RefusalsTest::bare, x -> x.wrong(1), BerthAges.STATE);
        refused("order(3): STATE ahead of NOTHING", RefusalsTest::bare, x -> x.order(3), BerthAges.STATE);
        refused("wrong(3): STATE ahead of NOTHING", RefusalsTest::bare, x -> x.wrong(3), BerthAges.STATE);
        refused("order(0): STATE ahead of UNLIKE", RefusalsTest::bare, x -> x.order(0), BerthAges.STATE);
        refused("wrong(0): STATE ahead of UNLIKE", RefusalsTest::bare, x -> x.wrong(0), BerthAges.STATE);
        finds("order(3), a missing ROW", RefusalsTest::moored, x -> x.order(3), NOTHING);
        finds("wrong(3), a missing ROW", RefusalsTest::moored, x -> x.wrong(3), NOTHING);
        for (int i : NO_SHIP) {
            orderFinds("no SHIP alone", i);
            orderFinds("no SHIP last", 4, 0, i);
            wrongFinds("no SHIP alone", i);
            wrongFinds("no SHIP last", 3, 2, 1, i);
        }
        for (int i : new int[] {1, 2, 3}) {
            orderFinds("one that is IN", i);
            orderFinds("one that is IN last", 4, 0, i);
            wrongFinds("told ahead", i, i);
        }
        orderFinds("told ahead", 0, 0);
        orderFinds("told ahead, not next to it", 4, 0, 4);
        orderFinds("a number that is a SHIP by its low bits alone", 32);
        orderFinds("UNLIKE, though one ahead takes more hours than a TIDE has", 0, 4, 4);
        wrongFinds("told ahead, not next to it", 3, 2, 3);
        wrongFinds("one outside", 0);
        wrongFinds("one outside last", 3, 2, 1, 4);
        wrongFinds("a number that is a SHIP by its low bits alone", 35);
        orderFinds("forty ints", new int[40]);
        wrongFinds("forty ints", new int[40]);
    }

    private void orderFinds(String name, int... ints) {
        finds("order: " + name, told(RefusalsTest::moored, ints), x -> x.order(4), UNLIKE);
    }

    private void wrongFinds(String name, int... ints) {
        finds("wrong: " + name, told(RefusalsTest::moored, ints), x -> x.wrong(4), UNLIKE);
    }

    // ---- promises 29 to 31; NONE is no refusal, but changes as little

    private void yearsAndPapers() {
        for (int i : NO_SHIP) {
            bad("when(" + i + ", 0)", RefusalsTest::moored, x -> x.when(i, 0));
            bad("built(" + i + ", 0)", RefusalsTest::moored, x -> x.built(i, 0));
            bad("least(" + i + ", 0)", RefusalsTest::moored, x -> x.least(i, 0));
        }
        for (int k : NO_BERTH) {
            bad("when(0, " + k + ")", RefusalsTest::moored, x -> x.when(0, k));
            bad("built(0, " + k + ")", RefusalsTest::moored, x -> x.built(0, k));
            bad("least(0, " + k + ")", RefusalsTest::moored, x -> x.least(0, k));
        }
        bad("when(0, 0) without SHIPS", RefusalsTest::bare, x -> x.when(0, 0));
        bad("built(0, 0) without SHIPS", RefusalsTest::bare, x -> x.built(0, 0));
        bad("least(0, 0) without SHIPS", RefusalsTest::bare, x -> x.least(0, 0));
        refused("when(0, 5): NONE", RefusalsTest::moored, x -> x.when(0, 5), BerthAges.NONE);
        refused("built(0, 5): NONE", RefusalsTest::moored, x -> x.built(0, 5), BerthAges.NONE);
        refused("least(1, 0): NONE", RefusalsTest::moored, x -> x.least(1, 0), BerthAges.NONE);
        refused("order: NONE", told(RefusalsTest::moored, 0, 4), x -> x.order(4), BerthAges.NONE);
        Consumer<BerthAges> tooShort = x -> {
            bare(x);
            x.put(0, 3, '1');
            x.harbour(0);
            x.come(3);
            x.at(0, 1);
        };
        refused("enter: NONE, a ROW that is there stays", tooShort, x -> x.enter(0), BerthAges.NONE);
        refused("enter: NONE, a ROW that is missing stays", tooShort, x -> x.enter(3), BerthAges.NONE);
    }

    // ---- promises 33 and 34

    private void kinds() {
        for (int i : NO_SHIP) {
            pairsAreBad("no SHIP " + i, i, 1, RefusalsTest::moored);
            pairsAreBad("no SHIP " + i + ": BAD ahead of NOTHING", i, 3, RefusalsTest::moored);
            pairsAreBad("no SHIP " + i + ": BAD ahead of SIZE", i, 0, RefusalsTest::moored);
            pairsAreBad("no SHIP " + i + ": BAD ahead of UNLIKE", i, 4, told(RefusalsTest::moored, -1, 0));
        }
        for (int r : NO_ROW) {
            pairsAreBad("ROW " + r, 0, r, RefusalsTest::moored);
        }
        pairsAreBad("without SHIPS", 0, 1, RefusalsTest::bare);
        pairsFind("a missing ROW", 3, RefusalsTest::moored, NOTHING);
        pairsFind("three ints", 0, RefusalsTest::moored, SIZE);
        pairsFind("one int", 4, told(RefusalsTest::moored, 50), SIZE);
        pairsFind("thirty-nine ints", 4, told(RefusalsTest::moored, new int[39]), SIZE);
        pairsFind("SIZE ahead of UNLIKE", 4, told(RefusalsTest::moored, -1, 2001, 1000), SIZE);
        int[][] unlike = {{-1, 0}, {1000, 0}, {MIN, 0}, {MAX, 0}, {0, -1}, {0, 2001}, {0, MIN}, {0, MAX},
            {50, 30, -1, 0}, {50, 30, 50, 2001}, {50, 30, 1000, 0}, {50, 30, 50, -1}, {50, 31, 1000, 0}};
        for (int[] ints : unlike) {
            pairsFind(java.util.Arrays.toString(ints), 4, told(RefusalsTest::moored, ints), UNLIKE);
        }
        refused("test: NONE", told(RefusalsTest::moored, 50, 31), x -> x.test(0, 4), BerthAges.NONE);
    }

    private void pairsAreBad(String name, int i, int r, Consumer<BerthAges> state) {
        bad("kinds: " + name, state, x -> x.kinds(i, r));
        bad("test: " + name, state, x -> x.test(i, r));
    }

    private void pairsFind(String name, int r, Consumer<BerthAges> state, int finding) {
        finds("kinds: " + name, state, x -> x.kinds(0, r), finding);
        finds("test: " + name, state, x -> x.test(0, r), finding);
    }

    // ---- promises 35 to 38

    private void turnsAndChances() {
        for (int n : new int[] {-1, 6, MIN, MAX}) {
            bad("duel(" + n + ")", RefusalsTest::moored, x -> x.duel(n));
            bad("duel(" + n + "): BAD ahead of STATE", RefusalsTest::bare, x -> x.duel(n));
        }
        refused("duel(0) without SHIPS", RefusalsTest::bare, x -> x.duel(0), BerthAges.STATE);
        for (int i : NO_SHIP) {
            bad("odds(" + i + ", 0, 0)", RefusalsTest::moored, x -> x.odds(i, 0, 0));
            bad("mid(" + i + ", 0)", RefusalsTest::moored, x -> x.mid(i, 0));
        }
        for (int k : NO_BERTH) {
            bad("odds(0, " + k + ", 0)", RefusalsTest::moored, x -> x.odds(0, k, 0));
        }
        for (int p : new int[] {-1, 13, MIN, MAX}) {
            bad("odds(0, 0, " + p + ")", RefusalsTest::moored, x -> x.odds(0, 0, p));
            bad("mid(0, " + p + ")", RefusalsTest::moored, x -> x.mid(0, p));
        }
        bad("odds(0, 0, 0) without SHIPS", RefusalsTest::bare, x -> x.odds(0, 0, 0));
        bad("mid(0, 0) without SHIPS", RefusalsTest::bare, x -> x.mid(0, 0));
        int[][] lots = {{0, 1}, {-1, 1}, {21, 1}, {MIN, 1}, {MAX, 1}, {1, 0}, {1, -1}, {1, MIN}, {1, MAX}};
        for (int[] l : lots) {
            bad("lots(" + l[0] + ", " + l[1] + ")", RefusalsTest::moored, x -> x.lots(l[0], l[1]));
            bad("lots(" + l[0] + ", " + l[1] + "): BAD ahead of STATE", RefusalsTest::bare, x -> x.lots(l[0], l[1]));
            bad("lots(" + l[0] + ", " + l[1] + "): BAD ahead of FULL", RefusalsTest::full, x -> x.lots(l[0], l[1]));
        }
        refused("lots(1, 1) without SHIPS", RefusalsTest::bare, x -> x.lots(1, 1), BerthAges.STATE);
        refused("lots(20, 1) without SHIPS", RefusalsTest::bare, x -> x.lots(20, 1), BerthAges.STATE);
        refused("lots(1, 1), 40 DEEDS", RefusalsTest::full, x -> x.lots(1, 1), BerthAges.FULL);
        Consumer<BerthAges> nearlyFull = x -> {
            full(x);
            x.undo(21);
        };
        refused("lots(20, 1), 21 DEEDS: none of them is done", nearlyFull, x -> x.lots(20, 1), BerthAges.FULL);
    }

    // ---- promises 42 and 44

    private void counts() {
        for (int what : new int[] {-1, 11, MIN, MAX}) {
            bad("count(" + what + ")", RefusalsTest::moored, x -> x.count(what));
            bad("count(" + what + ") without SHIPS", RefusalsTest::bare, x -> x.count(what));
        }
        for (int f : new int[] {-1, 0, 6, MIN, MAX}) {
            bad("findings(" + f + ")", RefusalsTest::moored, x -> x.findings(f));
            bad("findings(" + f + ") without SHIPS", RefusalsTest::bare, x -> x.findings(f));
        }
    }
}
