import java.util.function.IntBinaryOperator;
import java.util.function.ToIntBiFunction;

/** Of every number of every call the last one that is taken and the first one that is not, at both ends. */
public final class LimitsTest {
    private static final int BAD = BerthAges.BAD, FULL = BerthAges.FULL;
    // A finding as one number: FINDING is answered, and finding() tells which.
    private static final int BEYOND = -102, UNLIKE = -103, SIZE = -105;
    private static final String SIX = "h509 f20000 g20000 b20000 s20000 p20000 r20000", ONE = "h509 f20000";

    private final Due due = new Due("LimitsTest");

    public static void main(String[] args) {
        LimitsTest test = new LimitsTest();
        test.rows();
        test.texts();
        test.shipsOf(SIX, 6);
        test.shipsOf(ONE, 1);
        test.facts();
        test.deeds();
        test.berths();
        test.shipsOfRows();
        test.pairs();
        test.chances();
        test.counts();
        test.due.end();
    }

    /** A call with one number, on an object of its own. */
    private interface Call extends ToIntBiFunction<BerthAges, Integer> {
    }

    private interface State {
        BerthAges make();
    }

    private static int answer(State state, Call call, int v) {
        BerthAges x = state.make();
        int got = call.applyAsInt(x, v);
        return got == BerthAges.FINDING ? -100 - x.finding() : got;
    }

    private void takes(String name, State state, Call call, int least, int most, int refusal) {
        takes(name, state, call, least, most, refusal, refusal);
    }

    private void takes(String name, State state, Call call, int least, int most, int below, int above) {
        IntBinaryOperator refused = (v, refusal) -> answer(state, call, v) == refusal ? 1 : 0;
        for (int v : new int[] {least, most}) {
            due.is(name + " takes " + v, refused.applyAsInt(v, below) + refused.applyAsInt(v, above), 0);
        }
        for (int v : new int[] {least - 1, Integer.MIN_VALUE}) {
            due.is(name + " of " + v, answer(state, call, v), below);
        }
        for (int v : new int[] {most + 1, Integer.MAX_VALUE}) {
            due.is(name + " of " + v, answer(state, call, v), above);
        }
    }

    // ---- states

    private static BerthAges harbour(String signs) {
        Due made = new Due("LimitsTest");
        made.harbour(signs);
        return made.x;
    }

    private static BerthAges six() {
        return harbour(SIX);
    }

    /** A new object with all rows, of n ints each. */
    private static BerthAges rowsOf(int n) {
        return withRows(new BerthAges(), n);
    }

    private static BerthAges textsOf(int n) {
        BerthAges x = new BerthAges();
        for (int t = 0; t < 4; t++) {
            x.text(t, n);
        }
        return x;
    }

    private static BerthAges withRows(BerthAges x, int n) {
        for (int r = 0; r < 6; r++) {
            x.row(r, n);
        }
        return x;
    }

    private static BerthAges withDeeds(String signs, int n) {
        BerthAges x = harbour(signs);
        for (int d = 0; d < n; d++) {
            x.tide();
        }
        return x;
    }

    /** All six are in. */
    private static BerthAges allIn() {
        BerthAges x = six();
        for (int i = 0; i < 6; i++) {
            x.come(i);
            x.tide();
        }
        return x;
    }

    // ---- promises 2 to 7

    private void rows() {
        takes("row(r, 1)", BerthAges::new, (x, r) -> x.row(r, 1), 0, 5, BAD);
        takes("row(0, n)", BerthAges::new, (x, n) -> x.row(0, n), 0, 40, SIZE, BAD);
        takes("lay(r, 0, 1)", () -> rowsOf(1), (x, r) -> x.lay(r, 0, 1), 0, 5, BAD);
        takes("at(r, 0)", () -> rowsOf(1), (x, r) -> x.at(r, 0), 0, 5, BAD);
        takes("tear(r)", () -> rowsOf(1), (x, r) -> x.tear(r), 0, 5, BAD);
        takes("mean(r)", () -> rowsOf(1), (x, r) -> x.mean(r), 0, 5, BAD);
        for (int size : new int[] {1, 2, 40}) {
            takes("lay(0, i, 1) of " + size, () -> rowsOf(size), (x, i) -> x.lay(0, i, 1), 0, size - 1, BEYOND);
            takes("at(0, i) of " + size, () -> rowsOf(size), (x, i) -> x.at(0, i), 0, size - 1, BEYOND);
            for (int n : new int[] {0, 1, size}) {
                takes("copy(0, i, 1, 0, " + n + ") of " + size, () -> rowsOf(size),
                        (x, i) -> x.copy(0, i, 1, 0, n), 0, size - n, BEYOND);
                takes("copy(0, 0, 1, j, " + n + ") of " + size, () -> rowsOf(size),
                        (x, j) -> x.copy(0, 0, 1, j, n), 0, size - n, BEYOND);
            }
            takes("copy(0, 0, 1, 0, n) of " + size, () -> rowsOf(size),
                    (x, n) -> x.copy(0, 0, 1, 0, n), 0, size, SIZE, BEYOND);
            takes("copy(0, 1, 1, 0, n) of " + size, () -> rowsOf(size),
                    (x, n) -> x.copy(0, 1, 1, 0, n), 0, size - 1, SIZE, BEYOND);
            takes("copy(0, 0, 1, 1, n) of " + size, () -> rowsOf(size),
                    (x, n) -> x.copy(0, 0, 1, 1, n), 0, size - 1, SIZE, BEYOND);
        }
        takes("copy(r, 0, 1, 0, 1)", () -> rowsOf(1), (x, r) -> x.copy(r, 0, 1, 0, 1), 0, 5, BAD);
        takes("copy(1, 0, to, 0, 1)", () -> rowsOf(1), (x, to) -> x.copy(1, 0, to, 0, 1), 0, 5, BAD);
    }

    // ---- promises 8 to 11

    private void texts() {
        takes("text(t, 1)", BerthAges::new, (x, t) -> x.text(t, 1), 0, 3, BAD);
        takes("text(0, n)", BerthAges::new, (x, n) -> x.text(0, n), 0, 60, SIZE, BAD);
        takes("put(t, 0, 1)", () -> textsOf(1), (x, t) -> x.put(t, 0, 1), 0, 3, BAD);
        takes("fault(t)", () -> textsOf(1), (x, t) -> x.fault(t), 0, 3, BAD);
        takes("harbour(t)", () -> textsOf(1), (x, t) -> x.harbour(t), 0, 3, BAD);
        for (int size : new int[] {1, 2, 60}) {
            takes("put(0, i, 1) of " + size, () -> textsOf(size), (x, i) -> x.put(0, i, 1), 0, size - 1, BEYOND);
        }
    }

    // ---- every call that takes a ship

    private void shipsOf(String signs, int ships) {
        State state = () -> withRows(harbour(signs), 0);
        int last = ships - 1;
        takes("ship(i, 0)", state, (x, i) -> x.ship(i, 0), 0, last, BAD);
        takes("mark(i, 1)", state, (x, i) -> x.mark(i, 1), 0, last, BAD);
        takes("age(i, 0)", state, (x, i) -> x.age(i, 0), 0, last, BAD);
        takes("come(i)", state, (x, i) -> x.come(i), 0, last, BAD);
        takes("leave(i)", state, (x, i) -> x.leave(i), 0, last, BAD);
        takes("pay(i)", state, (x, i) -> x.pay(i), 0, last, BAD);
        takes("tea(i)", state, (x, i) -> x.tea(i), 0, last, BAD);
        takes("hours(i)", state, (x, i) -> x.hours(i), 0, last, BAD);
        takes("when(i, 0)", state, (x, i) -> x.when(i, 0), 0, last, BAD);
        takes("built(i, 0)", state, (x, i) -> x.built(i, 0), 0, last, BAD);
        takes("least(i, 0)", state, (x, i) -> x.least(i, 0), 0, last, BAD);
        takes("kinds(i, 0)", state, (x, i) -> x.kinds(i, 0), 0, last, BAD);
        takes("test(i, 0)", state, (x, i) -> x.test(i, 0), 0, last, BAD);
        takes("odds(i, 0, 0)", state, (x, i) -> x.odds(i, 0, 0), 0, last, BAD);
        takes("mid(i, 0)", state, (x, i) -> x.mid(i, 0), 0, last, BAD);
    }

    // ---- promises 12 to 14

    private void facts() {
        takes("ship(0, what)", LimitsTest::six, (x, what) -> x.ship(0, what), 0, 8, BAD);
        takes("mark(0, kind) of a FORGED one", LimitsTest::six, (x, kind) -> x.mark(0, kind), 1, 5, BAD);
        takes("mark(1, kind) of a GHOST", LimitsTest::six, (x, kind) -> x.mark(1, kind), 1, 5, BAD);
        takes("mark(3, kind) of a SHIP", LimitsTest::six, (x, kind) -> x.mark(3, kind), 1, 5, BAD);
        takes("age(0, year)", LimitsTest::six, (x, year) -> x.age(0, year), 0, 999, BAD);
    }

    // ---- promises 21 to 23

    private void deeds() {
        for (int deeds : new int[] {0, 1, 39, 40}) {
            takes("undo(n) of " + deeds, () -> withDeeds(SIX, deeds), (x, n) -> x.undo(n), 0, deeds, BAD);
            // Two beyond: a count that is only taken away from could answer -1 for one beyond by itself.
            due.is("undo two beyond " + deeds, withDeeds(SIX, deeds).undo(deeds + 2), BAD);
        }
        takes("undo(n) without SHIPS", BerthAges::new, (x, n) -> x.undo(n), 0, 0, BAD);
        takes("keep(k)", LimitsTest::six, (x, k) -> x.keep(k), 0, 2, BAD);
        State kept = () -> {
            BerthAges x = six();
            x.keep(0);
            x.keep(1);
            x.keep(2);
            return x;
        };
        takes("on(k)", kept, (x, k) -> x.on(k), 0, 2, BAD);
    }

    // ---- every call that takes a row, or a berth, in a harbour

    private void berths() {
        State state = () -> withRows(six(), 0);
        takes("berths(r)", state, (x, r) -> x.berths(r), 0, 5, BAD);
        takes("enter(r)", state, (x, r) -> x.enter(r), 0, 5, BAD);
        takes("order(r)", state, (x, r) -> x.order(r), 0, 5, BAD);
        takes("wrong(r)", state, (x, r) -> x.wrong(r), 0, 5, BAD);
        takes("kinds(0, r)", state, (x, r) -> x.kinds(0, r), 0, 5, BAD);
        takes("test(0, r)", state, (x, r) -> x.test(0, r), 0, 5, BAD);
        // Berths reach to 5, however few ships there are.
        State one = () -> withRows(harbour(ONE), 0);
        for (State s : new State[] {state, one}) {
            takes("when(0, k)", s, (x, k) -> x.when(0, k), 0, 5, BAD);
            takes("built(0, k)", s, (x, k) -> x.built(0, k), 0, 5, BAD);
            takes("least(0, k)", s, (x, k) -> x.least(0, k), 0, 5, BAD);
            takes("odds(0, k, 6)", s, (x, k) -> x.odds(0, k, 6), 0, 5, BAD);
        }
    }

    // ---- promises 28 and 32

    private void shipsOfRows() {
        Call order = (x, v) -> {
            x.row(0, 1);
            x.lay(0, 0, v);
            return x.order(0);
        };
        Call wrong = (x, v) -> {
            x.row(0, 1);
            x.lay(0, 0, v);
            return x.wrong(0);
        };
        takes("order of one", LimitsTest::six, order, 0, 5, UNLIKE);
        takes("wrong of one", LimitsTest::allIn, wrong, 0, 5, UNLIKE);
        takes("order of one of one", () -> harbour(ONE), order, 0, 0, UNLIKE);
    }

    // ---- promises 33 and 34

    private void pairs() {
        for (int place : new int[] {0, 1, 38, 39}) {
            int most = place % 2 == 0 ? 999 : 2000;
            takes("kinds with int " + place, LimitsTest::six, (x, v) -> layPair(x, place, v).kinds(0, 0), 0, most, UNLIKE);
            takes("test with int " + place, LimitsTest::six, (x, v) -> layPair(x, place, v).test(0, 0), 0, most, UNLIKE);
        }
        for (int n = 0; n <= 40; n++) {
            BerthAges x = withRows(six(), n);
            due.is("kinds by " + n + " ints", x.kinds(0, 0) == BerthAges.FINDING ? 1 : 0, n % 2);
            due.is("test by " + n + " ints", x.test(0, 1) == BerthAges.FINDING ? 1 : 0, n % 2);
            due.is("SIZE by " + n + " ints", x.findings(5), 2 * (n % 2));
        }
    }

    private static BerthAges layPair(BerthAges x, int place, int v) {
        x.row(0, 40);
        x.lay(0, place, v);
        return x;
    }

    // ---- promises 35 to 38

    private void chances() {
        takes("duel(n)", LimitsTest::six, (x, n) -> x.duel(n), 0, 5, BAD);
        takes("odds(0, 0, p)", LimitsTest::six, (x, p) -> x.odds(0, 0, p), 0, 12, BAD);
        takes("mid(0, p)", LimitsTest::six, (x, p) -> x.mid(0, p), 0, 12, BAD);
        takes("lots(n, 1)", LimitsTest::six, (x, n) -> x.lots(n, 1), 1, 20, BAD);
        takes("lots(1, seed)", LimitsTest::six, (x, seed) -> x.lots(1, seed), 1, 2147483646, BAD);
        for (int deeds = 20; deeds <= 40; deeds++) {
            for (int n = 1; n <= 20; n++) {
                boolean fits = deeds + n <= 40;
                int got = withDeeds(SIX, deeds).lots(n, 1);
                due.is(n + " lots behind " + deeds + " DEEDS", got == FULL ? 1 : 0, fits ? 0 : 1);
            }
        }
    }

    // ---- promises 42 and 44

    private void counts() {
        takes("count(what)", LimitsTest::six, (x, what) -> x.count(what), 0, 10, BAD);
        takes("count(what) without SHIPS", BerthAges::new, (x, what) -> x.count(what), 0, 10, BAD);
        takes("findings(f)", LimitsTest::six, (x, f) -> x.findings(f), 1, 5, BAD);
    }
}
