import java.math.BigInteger;

/** Promises 35 to 38, 40 and 41 at their edges: turns, chances, means in lowest terms, lots that wrap around. */
public final class ChanceEdgesTest {
    // From the oldest on, as they are numbered.
    private static final String SIX = "s00000 s10000 s20000 s30000 s40000 s50000";

    private final Due due = new Due("ChanceEdgesTest");

    public static void main(String[] args) {
        ChanceEdgesTest test = new ChanceEdgesTest();
        test.duelOfOne();
        test.duelTurnByTurn();
        test.duelAtItsEnds();
        test.duelChangesNothing();
        test.nothingToldAtFirst();
        test.oddsOfFiveAhead();
        test.oddsOfNoneAhead();
        test.oddsOfThoseIn();
        test.means();
        test.lowestTerms();
        test.lotsAsDeeds();
        test.lotsOfSeedsAtTheEnds();
        test.lotsWithoutHours();
        test.lotsToForty();
        test.due.end();
    }

    private BerthAges x() {
        return due.x;
    }

    private void comeAll(int... ships) {
        for (int i : ships) {
            x().come(i);
            x().tide();
        }
    }

    private void told(String name, int got, long upper, long lower) {
        due.is(name, got, 1);
        due.is(name + ": upper()", x().upper(), upper);
        due.is(name + ": lower()", x().lower(), lower);
    }

    // ---- promise 35

    private void duelOfOne() {
        due.harbour("h501 s20000");
        for (int n = 0; n <= 5; n++) {
            due.is("one outside, the second owner has none: duel(" + n + ")", x().duel(n), 100);
        }
        x().come(0);
        for (int n = 0; n <= 5; n++) {
            due.is("one IN, at 0: duel(" + n + ")", x().duel(n), 100);
        }
    }

    private void duelTurnByTurn() {
        // The odd one is the oldest. With 0 and 1 IN the even one lies at 1: one less.
        due.harbour("h509 s20000 s10000");
        comeAll(0);
        due.is("0 IN, no turn", x().duel(0), 100);
        due.is("one turn: the first does nothing", x().duel(1), 100);
        due.is("two turns: 0 goes out ahead of 1 coming", x().duel(2), 100);
        due.is("three turns", x().duel(3), 100);
        comeAll(1);
        due.is("both IN, no turn", x().duel(0), 99);
        due.is("one turn: 0 goes out", x().duel(1), 100);
        // Three even ones lie behind an odd one: 1 + 2 + 3 less. By each turn of hers the first owner lets one go
        // out; the second does best to do nothing: 1 going out lets all be nearer, 3 coming lies farther than all.
        due.harbour("h509 s20000 s10000 s30000 s99000 s40000");
        comeAll(0, 1, 2, 4);
        int[] byTurns = {94, 97, 97, 99, 99, 100};
        for (int n = 0; n <= 5; n++) {
            due.is(n + " turns in all", x().duel(n), byTurns[n]);
        }
    }

    private void duelAtItsEnds() {
        due.harbour("h509 s00000 s10000 s01000 s11000 s02000 s12000");
        comeAll(0, 1, 2, 3, 4, 5);
        due.is("even ones at 0, 1, 2, odd ones at 3, 4, 5: 12 less 3", x().duel(0), 109);
        due.harbour("h509 s10000 s00000 s11000 s01000 s12000 s02000");
        comeAll(0, 1, 2, 3, 4, 5);
        due.is("the other way round: 3 less 12", x().duel(0), 91);
        due.is("with five turns she is better off", x().duel(5) > 91 ? 1 : 0, 1);
    }

    private void duelChangesNothing() {
        due.harbour("h501 " + SIX);
        x().come(3);
        long before = x().digest();
        for (int n = 5; n >= 0; n--) {
            x().duel(n);
        }
        due.is("digest() behind duels", x().digest(), before);
        int five = x().duel(5);
        x().duel(0);
        due.is("duel(5) again", x().duel(5), five);
    }

    // ---- promises 36 and 37

    private void nothingToldAtFirst() {
        due.anew();
        due.is("upper() before", x().upper(), 0);
        due.is("lower() before", x().lower(), 1);
        due.harbour("h509 " + SIX);
        due.is("upper() by a HARBOUR", x().upper(), 0);
        due.is("lower() by a HARBOUR", x().lower(), 1);
    }

    /** A number by 12 to the power of 5, in lowest terms. */
    private void toldByTwelfths(String name, int got, long ways) {
        BigInteger all = BigInteger.valueOf(248832);
        BigInteger common = all.gcd(BigInteger.valueOf(ways));
        told(name, got, BigInteger.valueOf(ways).divide(common).longValue(), all.divide(common).longValue());
    }

    private static long power(long base, int n) {
        long all = 1;
        for (int i = 0; i < n; i++) {
            all *= base;
        }
        return all;
    }

    private void oddsOfFiveAhead() {
        due.harbour("h509 " + SIX);
        comeAll(0, 1, 2, 3, 4);
        long[] waysOfFive = {1, 5, 10, 10, 5, 1};
        for (int p = 0; p <= 12; p++) {
            long ways = 0;
            for (int k = 0; k <= 5; k++) {
                ways += waysOfFive[k] * power(12 - p, k) * power(p, 5 - k);
                toldByTwelfths("five AHEAD, BERTH " + k + " or nearer, by " + p, x().odds(5, k, p), ways);
            }
        }
        told("none sinks: BERTH 4 or nearer", x().odds(5, 4, 0), 0, 1);
        told("none sinks: BERTH 5", x().odds(5, 5, 0), 1, 1);
        told("all sink: BERTH 0", x().odds(5, 0, 12), 1, 1);
    }

    private void oddsOfNoneAhead() {
        due.harbour("h509 " + SIX);
        for (int i = 0; i < 6; i++) {
            told("nobody IN", x().odds(i, 0, 0), 1, 1);
        }
        comeAll(1, 2, 3, 4, 5);
        for (int p = 0; p <= 12; p++) {
            told("the oldest, outside, by " + p, x().odds(0, 0, p), 1, 1);
            told("the oldest of those IN by " + p, x().odds(1, 0, p), 1, 1);
            told("BERTH 5 or nearer by " + p, x().odds(3, 5, p), 1, 1);
        }
    }

    private void oddsOfThoseIn() {
        due.harbour("h509 s00000 s10000 s20000");
        comeAll(0);
        told("one AHEAD is outside", x().odds(2, 0, 5), 5, 12);
        comeAll(2);
        told("she is IN herself and does not sink", x().odds(2, 0, 5), 5, 12);
        told("one behind does not count", x().odds(1, 0, 5), 5, 12);
        comeAll(1);
        told("both AHEAD are IN", x().odds(2, 0, 5), 25, 144);
        due.is("nobody sank", x().count(4), 7);
    }

    private void means() {
        due.harbour("h509 " + SIX);
        for (int p = 0; p <= 12; p++) {
            told("nobody IN, by " + p, x().mid(5, p), 0, 1);
        }
        comeAll(0, 1, 2, 3, 4);
        long[][] five = {{5, 1}, {55, 12}, {25, 6}, {15, 4}, {10, 3}, {35, 12}, {5, 2}, {25, 12}, {5, 3}, {5, 4},
            {5, 6}, {5, 12}, {0, 1}};
        for (int p = 0; p <= 12; p++) {
            told("five AHEAD by " + p, x().mid(5, p), five[p][0], five[p][1]);
            told("the oldest by " + p, x().mid(0, p), 0, 1);
        }
        told("one AHEAD by 0", x().mid(1, 0), 1, 1);
        told("one AHEAD by 12", x().mid(1, 12), 0, 1);
        told("one AHEAD by 1", x().mid(1, 1), 11, 12);
    }

    private void lowestTerms() {
        due.harbour("h509 " + SIX);
        comeAll(0, 1);
        told("6 by 12", x().odds(1, 0, 6), 1, 2);
        told("36 by 144", x().odds(2, 0, 6), 1, 4);
        told("0 by 144 is 0 by 1", x().odds(2, 0, 0), 0, 1);
        told("144 by 144 is 1 by 1", x().odds(2, 2, 7), 1, 1);
        told("a mean of 24 by 12", x().mid(2, 0), 2, 1);
        told("a mean of 0", x().mid(2, 12), 0, 1);
        told("a chance", x().odds(1, 0, 7), 7, 12);
        x().odds(1, 0, 13);
        x().mid(6, 0);
        x().duel(3);
        x().mean(0);
        x().tide();
        due.is("the last told: upper()", x().upper(), 7);
        due.is("the last told: lower()", x().lower(), 12);
    }

    // ---- promise 38

    /** The lots of a seed by deeds of their own, with numbers that know no end. */
    private void sameAsDeeds(String signs, int n, int seed) {
        String name = "lots(" + n + ", " + seed + ") of '" + signs + "'";
        due.harbour(signs);
        BerthAges twin = x();
        due.harbour(signs);
        BigInteger lot = BigInteger.valueOf(seed);
        for (int d = 0; d < n; d++) {
            lot = lot.multiply(BigInteger.valueOf(48271)).mod(BigInteger.valueOf(2147483647));
            int i = lot.divide(BigInteger.valueOf(8)).mod(BigInteger.valueOf(twin.count(0))).intValueExact();
            boolean outside = (twin.count(4) >> i & 1) == 0;
            if ((outside ? twin.come(i) : twin.leave(i)) == BerthAges.SPENT) {
                twin.tide();
            }
        }
        due.is(name, x().lots(n, seed), twin.count(4));
        due.is(name + ": digest()", x().digest(), twin.digest());
        due.is(name + ": DEEDS", x().count(2), n);
        due.is(name + ": undone by half", x().undo(n / 2), twin.undo(n / 2));
        due.is(name + ": digest() then", x().digest(), twin.digest());
    }

    private void lotsAsDeeds() {
        int[] seeds = {1, 2, 7, 8, 44488, 44489, 48271, 65535, 1 << 16, 1 << 30, 1234567890, 2147483645, 2147483646};
        String[] ships = {"s20009", "s20009 s10009", "s30003 g20009 b10009", "s00009 s10009 s20009 s30009 s40009 s50009"};
        for (int seed : seeds) {
            for (String s : ships) {
                sameAsDeeds("h501 " + s, 20, seed);
                sameAsDeeds("h504 " + s, 20, seed);
                sameAsDeeds("h509 " + s, 1, seed);
                sameAsDeeds("h509 " + s, 20, seed);
            }
        }
    }

    private void lotsOfSeedsAtTheEnds() {
        // 48271 by 8 is 6033, of six the ship 3.
        due.harbour("h509 " + SIX);
        due.is("seed 1", x().lots(1, 1), 8);
        // 2147483647 less 48271 is 2147435376, by 8 268429422, of six the ship 0.
        due.harbour("h509 " + SIX);
        due.is("the greatest seed", x().lots(1, 2147483646), 1);
        // 1899818559 times 48271 is 1 and 2147483647 times a number: by 8 it is cut to 0.
        due.harbour("h509 " + SIX);
        due.is("a lot of 1", x().lots(1, 1899818559), 1);
        due.harbour("h509 s20000");
        due.is("one SHIP comes", x().lots(1, 1), 1);
        due.is("one SHIP goes", x().lots(1, 1), 0);
        due.is("two lots", x().lots(2, 1), 0);
        due.is("three lots", x().lots(3, 1), 1);
    }

    private void lotsWithoutHours() {
        due.harbour("h501 s20003");
        due.is("she comes", x().lots(1, 5), 1);
        due.is("no hour is LEFT: a TIDE", x().lots(1, 5), 1);
        due.is("by which she is AGROUND", x().count(6), 1);
        due.is("an hour is LEFT", x().count(3), 1);
        due.is("she goes", x().lots(1, 5), 0);
        due.is("DEEDS", x().count(2), 3);
        // The older one takes 2 hours, a tide has 1: she never comes, tides pass.
        due.harbour("h501 s10000 s20000");
        x().come(1);
        due.is("seed 1: SHIP 1 by 6033, no hour is LEFT: a TIDE", x().lots(1, 1), 2);
        due.is("seed 2147483646: SHIP 0 by 268429422, who takes 2 of 1", x().lots(1, 2147483646), 2);
        due.is("again", x().lots(1, 2147483646), 2);
        due.is("DEEDS", x().count(2), 4);
    }

    private void lotsToForty() {
        due.harbour("h509 " + SIX);
        due.is("twenty", x().lots(20, 3) >= 0 ? 1 : 0, 1);
        due.is("twenty more", x().lots(20, 3) >= 0 ? 1 : 0, 1);
        due.is("40 DEEDS", x().count(2), 40);
        long full = x().digest();
        due.is("one more", x().lots(1, 3), BerthAges.FULL);
        due.is("nothing changes", x().digest(), full);
        x().undo(39);
        due.is("two more than fit", x().lots(2, 3), BerthAges.FULL);
        due.is("not even one is done", x().count(2), 39);
        due.is("one fits", x().lots(1, 3) >= 0 ? 1 : 0, 1);
        due.is("40 DEEDS again", x().count(2), 40);
    }
}
