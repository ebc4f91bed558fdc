/** Promises 24 to 34 at their edges: none, one, all six; the last hour, year, cup that does and the first that does not. */
public final class QuestionEdgesTest {
    private static final int NONE = BerthAges.NONE;
    // From the oldest on, as they are numbered.
    private static final String SIX = "s00000 s10000 s20000 s30000 s40000 s50000";
    private static final int SHIP = 1, BELL = 2, PRIZE = 4, RAFT = 8, FORGED = 16, GHOST = 32;

    private final Due due = new Due("QuestionEdgesTest");

    public static void main(String[] args) {
        QuestionEdgesTest test = new QuestionEdgesTest();
        test.berthsOfNoneToSix();
        test.hoursBeyondATide();
        test.groundOfAll();
        test.enterOfNoneOrOne();
        test.enterOfSixByTides();
        test.enterWithHoursLeft();
        test.enterByTheOnlyOrder();
        test.enterAsLongAsATide();
        test.orderOfSome();
        test.orderByTides();
        test.orderAsLongAsATide();
        test.whenByBerths();
        test.whenFirst();
        test.whenInTheLastYears();
        test.builtAtBothEnds();
        test.builtOfAll();
        test.builtByKind();
        test.leastTea();
        test.leastByKind();
        test.wrongPairs();
        test.kindsByEnds();
        test.testsByEnds();
        test.due.end();
    }

    private BerthAges x() {
        return due.x;
    }

    /** Ships come in, a tide behind each, so that no hours are wanting. */
    private void comeAll(int... ships) {
        for (int i : ships) {
            x().come(i);
            x().tide();
        }
    }

    private void six(String head) {
        due.harbour(head + " " + SIX);
    }

    // ---- promises 24 to 26

    private void berthsOfNoneToSix() {
        six("h509");
        due.is("a missing ROW, nobody IN", x().berths(3), 0);
        due.rowIs("it is there, empty", 3);
        due.is("one ROW", x().count(8), 1);
        for (int i = 5; i >= 0; i--) {
            comeAll(i);
            x().row(3, 40);
            due.is("the ROW is of " + (6 - i), x().berths(3), 6 - i);
            due.tells("the oldest is next to the inn", x().at(3, 0), i);
        }
        due.rowIs("all six", 3, 0, 1, 2, 3, 4, 5);
        for (int i = 0; i < 6; i++) {
            due.tells("BERTH of " + i, x().ship(i, 7), i);
        }
    }

    private void hoursBeyondATide() {
        six("h501");
        for (int i = 0; i < 6; i++) {
            due.is("oldest first: an hour", x().hours(i), 1);
            comeAll(i);
        }
        for (int i = 0; i < 6; i++) {
            due.is("going out, " + (5 - i) + " younger, a TIDE of 1", x().hours(i), 6 - i);
        }
        x().come(0);
        due.is("hours LEFT are aside", x().hours(5), 1);
    }

    private void groundOfAll() {
        due.harbour("h509 s00009 s10009 s20009 s30009 s40009 s50009");
        due.both("nobody IN", x().ground(), 0, 0);
        comeAll(0);
        due.both("one IN: 9 in 2", x().ground(), 1, 7);
        comeAll(1, 2, 3, 4, 5);
        due.both("all of 9: 7 6 5 4 3 2", x().ground(), 63, 27);
        due.harbour("h509 s00002 s10003 s20004 s30005 s40006 s50007");
        comeAll(0, 1, 2, 3, 4, 5);
        due.both("each as deep as her BERTH", x().ground(), 0, 0);
        due.harbour("h509 s00003 s10004 s20005 s30006 s40007 s50008");
        comeAll(0, 1, 2, 3, 4, 5);
        due.both("each by one too much", x().ground(), 63, 6);
        due.harbour("h509 s00003 s10000");
        comeAll(0);
        due.both("3 in 2", x().ground(), 1, 1);
        x().tea(1);
        x().tea(1);
        x().tea(1);
        comeAll(1);
        due.both("3 in 3, behind one who is older by papers", x().ground(), 0, 0);
    }

    // ---- promises 27 and 28

    private void enterOfNoneOrOne() {
        due.harbour("h501 s20000");
        x().row(2, 40);
        due.both("one outside", x().enter(2), 0, 0);
        due.rowIs("the ROW is anew", 2, 0);
        x().come(0);
        x().row(2, 40);
        due.both("nobody outside, no hours LEFT", x().enter(2), 0, 0);
        due.rowIs("an empty order", 2);
        x().leave(0);
        x().tear(2);
        x().tide();
        x().leave(0);
        due.both("one outside, no hours LEFT, a missing ROW", x().enter(2), 1, 0);
        due.rowIs("the ROW is there", 2, 0);
    }

    private void enterOfSixByTides() {
        // By hours of a tide: tides for six ships of an hour each.
        int[] tides = {5, 2, 1, 1, 1, 0, 0, 0, 0};
        for (int hours = 1; hours <= 9; hours++) {
            due.harbour("h50" + hours + " s50000 s40000 s30000 s20000 s10000 s00000");
            due.both("six by TIDES of " + hours, x().enter(1), tides[hours - 1], 0);
            due.rowIs("the oldest first", 1, 5, 4, 3, 2, 1, 0);
            due.both("order() of it", x().order(1), tides[hours - 1], 0);
        }
    }

    private void enterWithHoursLeft() {
        due.harbour("h502 s00000 s10000 s20000");
        due.both("2 are LEFT", x().enter(1), 1, 0);
        x().come(0);
        due.both("1 is LEFT, two outside", x().enter(1), 1, 0);
        x().leave(0);
        due.both("none is LEFT", x().enter(1), 2, 0);
        due.rowIs("the order", 1, 0, 1, 2);
        due.is("nothing is done by asking", x().count(4), 0);
        due.is("no TIDE by asking", x().count(2), 2);
    }

    private void enterByTheOnlyOrder() {
        // 1 is the oldest, 2 the youngest and IN: 0 first would leave 3 hours for 1, and a tide has 2.
        due.harbour("h502 s20000 s10000 s30000");
        x().come(2);
        due.both("the first order can't be, the other one can", x().enter(0), 2, 2);
        due.rowIs("the other one", 0, 1, 0);
        due.row(1, 0, 1);
        due.both("order() of the first one", x().order(1), NONE, 0);
    }

    private void enterAsLongAsATide() {
        due.harbour("h502 s20000 s10000");
        x().come(0);
        due.both("2 hours, a TIDE has 2, 1 is LEFT", x().enter(0), 1, 1);
        x().tide();
        due.both("2 hours, 2 are LEFT", x().enter(0), 0, 1);
        due.harbour("h503 s20000 s10000 s00000");
        comeAll(0, 1);
        due.both("3 hours, a TIDE has 3", x().enter(0), 0, 2);
        due.harbour("h502 s20000 s10000 s00000");
        comeAll(0, 1);
        due.is("3 hours, a TIDE has 2", x().enter(0), NONE);
        due.harbour("h505 " + SIX);
        comeAll(1, 2, 3, 4);
        due.is("0 takes 5 hours ahead of 5, who takes one", x().enter(0), 1);
        due.rowIs("and goes first", 0, 0, 5);
        x().come(5);
        x().tide();
        due.is("0 takes 6 hours, a TIDE has 5", x().enter(0), NONE);
    }

    private void orderOfSome() {
        six("h509");
        due.row(0);
        due.both("none of six", x().order(0), 0, 0);
        for (int i = 0; i < 6; i++) {
            due.row(0, i);
            due.both("one of six", x().order(0), 0, 0);
        }
        due.row(0, 5, 0);
        due.both("two of six", x().order(0), 0, 1);
        comeAll(0, 1, 2, 3, 4, 5);
        due.row(0);
        due.both("all are IN", x().order(0), 0, 0);
    }

    private void orderByTides() {
        int[] youngestFirst = {5, 4, 3, 2, 1, 0};
        // 1, 2, 3 hours, then 4 and 5, then 6.
        six("h509");
        due.row(0, youngestFirst);
        due.both("TIDES of 9", x().order(0), 2, 15);
        // 1, 2, 3 hours; 4; 5; 6.
        six("h506");
        due.row(0, youngestFirst);
        due.both("TIDES of 6", x().order(0), 3, 15);
        six("h505");
        due.row(0, youngestFirst);
        due.is("TIDES of 5, the last takes 6", x().order(0), NONE);
        due.row(0, 5, 4, 3, 2, 1);
        // 1, 2 hours (2 are left, the next takes 3); 3; 4; 5.
        due.both("TIDES of 5 but for the last", x().order(0), 3, 10);
        due.harbour("h502 s00000 s10000 s20000");
        x().come(0);
        due.row(0, 1);
        due.both("1 of 1 LEFT", x().order(0), 0, 0);
        x().come(1);
        due.row(0, 2);
        due.both("1 of 0 LEFT", x().order(0), 1, 0);
    }

    private void orderAsLongAsATide() {
        due.harbour("h503 s30000 s20000 s10000 s00000");
        x().come(0);
        x().come(1);
        due.row(0, 2);
        due.both("3 hours, a TIDE has 3, none is LEFT", x().order(0), 1, 2);
        due.row(0, 2, 3);
        due.is("then 4 hours, a TIDE has 3", x().order(0), NONE);
        due.row(0, 3, 2);
        due.both("3 hours each the other way round", x().order(0), 2, 4);
    }

    // ---- promises 29 to 31

    private void whenByBerths() {
        six("h509");
        for (int i = 0; i < 6; i++) {
            due.is("nobody IN, as if she was: BERTH 0", x().when(i, 0), 0);
            due.is("nobody IN: BERTH 1", x().when(i, 1), NONE);
        }
        comeAll(0, 1, 2, 3, 4, 5);
        for (int i = 0; i < 6; i++) {
            for (int k = 0; k < 6; k++) {
                due.is("when(" + i + ", " + k + ")", x().when(i, k), i == k ? 0 : NONE);
            }
        }
        six("h509");
        comeAll(0, 1, 2, 3, 4);
        due.is("five IN, the sixth outside: BERTH 5", x().when(5, 5), 0);
        due.is("five IN, one of them: BERTH 4", x().when(4, 4), 0);
        due.is("who is outside does not count", x().when(4, 5), NONE);
    }

    private void whenFirst() {
        // A prize of half of 60 years, 30, and a ship of 20: in 19 years half of 79 is cut to 39, and she is 39.
        due.harbour("h609 p00000 s40100");
        comeAll(0);
        due.is("behind now", x().when(1, 1), 0);
        due.is("AHEAD by the CAPTAIN in 19", x().when(1, 0), 19);
        comeAll(1);
        due.is("the prize at 0 now", x().when(0, 0), 0);
        due.is("the prize at 1 in 19", x().when(0, 1), 19);
        due.harbour("h609 p00100 s40000");
        comeAll(0);
        due.is("by a lesser CAPTAIN in 21, half of 81 is cut", x().when(1, 0), 21);
        due.harbour("h009 s99000 s98100");
        comeAll(0);
        due.is("both are 0: the CAPTAIN", x().when(1, 0), 0);
        due.harbour("h009 s99100 s98000");
        comeAll(0);
        due.is("the first year of 99 in which she is older", x().when(1, 0), 99);
        due.harbour("h009 s99100 s99000");
        comeAll(0);
        due.is("never older", x().when(1, 0), NONE);
        due.harbour("h999 g00900 s99000");
        comeAll(1);
        due.is("a GHOST and one of 0: now by the CAPTAIN", x().when(0, 0), 0);
        due.is("and in a year not", x().when(0, 1), 1);
    }

    private void whenInTheLastYears() {
        due.harbour("h999 r99000 p00100 s99100 s48100");
        x().come(0);
        for (int d = 1; d < 40; d++) {
            x().year();
        }
        due.is("the YEAR", x().count(1), 138);
        due.is("half of 180 is 90", x().when(1, 0), 42);
        due.is("189 past 99 is 90", x().when(2, 0), 51);
        due.is("90 now", x().when(3, 0), 0);
    }

    private void builtAtBothEnds() {
        due.harbour("h999 s98900 s99900 s00500");
        comeAll(0, 1);
        due.both("behind both by 99 alone", x().built(2, 2), 1, 99);
        due.both("between by 98 alone", x().built(2, 1), 1, 98);
        due.both("AHEAD of both", x().built(2, 0), 98, 0);
        due.harbour("h999 s00000 s50500");
        comeAll(0);
        due.both("AHEAD by 0 alone", x().built(1, 0), 1, 0);
        due.both("behind", x().built(1, 1), 99, 1);
        due.harbour("h999 s00900 s50500");
        comeAll(0);
        due.is("AHEAD by none", x().built(1, 0), NONE);
        due.both("behind by all", x().built(1, 1), 100, 0);
        due.harbour("h009 s00000 s50500 s00900");
        comeAll(0);
        due.both("in the YEAR 0 all are 0: the CAPTAIN", x().built(1, 0), 100, 0);
        comeAll(2);
        due.both("and a greater one", x().built(1, 1), 100, 0);
    }

    private void builtOfAll() {
        six("h509");
        comeAll(0, 1, 2, 3, 4, 5);
        // The others' years are 0, 10, .. but her own; a like year is hers by the lesser number alone.
        due.both("SHIP 0 at 0: 0 to 10", x().built(0, 0), 11, 0);
        due.both("SHIP 0 at 5: 50 on are 0 OLD like the last, AHEAD by number", x().built(0, 5), NONE, 0);
        due.both("SHIP 5 at 0: none, 0 is the other's", x().built(5, 0), NONE, 0);
        due.both("SHIP 5 at 1: 0 to 9", x().built(5, 1), 10, 0);
        due.both("SHIP 5 at 5: 40 to 99", x().built(5, 5), 60, 40);
        due.both("SHIP 3 at 3: 20 to 40, behind the like one of 20, AHEAD of that of 40", x().built(3, 3), 21, 20);
    }

    private void builtByKind() {
        // One of 49 years, a captain of 5, is IN.
        due.harbour("h999 s50500 b50400 p50600 r50600 f50400 g50600");
        comeAll(0);
        due.both("a BELL: 30 OLD and 20 more", x().built(1, 0), 70, 0);
        due.both("a BELL behind", x().built(1, 1), 30, 70);
        due.both("a PRIZE: half of 98, AHEAD by the CAPTAIN", x().built(2, 0), 2, 0);
        due.both("a RAFT by any", x().built(3, 0), 100, 0);
        due.both("a FORGED one: 25 OLD and 25 more", x().built(4, 0), 75, 0);
        due.both("a GHOST behind by any", x().built(5, 1), 100, 0);
        due.is("a GHOST by none", x().built(5, 0), NONE);
        x().pay(5);
        due.both("who has PAID by any", x().built(5, 0), 100, 0);
        x().tea(1);
        for (int cup = 0; cup < 4; cup++) {
            x().tea(2);
        }
        due.both("a BELL with 5 of TEA: 25 OLD", x().built(1, 0), 75, 0);
        due.both("a PRIZE with 20 of TEA: half of 58", x().built(2, 0), 42, 0);
        due.both("and behind", x().built(2, 1), 58, 42);
    }

    private void leastTea() {
        due.harbour("h909 s00500 s40500 s39500 s41500 s40600");
        comeAll(0);
        due.is("90 to 90 is of the lesser number: 41 would do", x().least(1, 0), NONE);
        due.is("51 and 40 is past 90", x().least(2, 0), 40);
        due.is("49 and 40 is not 90", x().least(3, 0), NONE);
        due.is("50 and 40 by the CAPTAIN", x().least(4, 0), 40);
        due.is("BERTH 1 by none", x().least(1, 1), 0);
        due.is("BERTH 5 by none", x().least(1, 5), 0);
        due.is("she herself at 0", x().least(0, 0), 0);
        for (int cup = 0; cup < 4; cup++) {
            x().tea(1);
            x().tea(3);
        }
        due.is("with 20 of TEA above 20, too: 70 and 21", x().least(1, 0), 21);
        due.is("69 and 22", x().least(3, 0), 22);
        due.tells("no TEA by asking", x().ship(1, 5), 20);
        six("h509");
        comeAll(0, 1, 2, 3, 4);
        int[] least = {NONE, NONE, 31, 21, 11, 0};
        for (int k = 0; k < 6; k++) {
            due.is("the youngest at " + k + " or nearer", x().least(5, k), least[k]);
        }
    }

    private void leastByKind() {
        due.harbour("h999 s00500 r19400 r20400 p00600 b40600 g00900");
        comeAll(0);
        due.is("a RAFT of 90: 80 and 20 are past 99", x().least(1, 0), 20);
        due.is("a RAFT of 90: 79 and 21", x().least(2, 0), 21);
        due.is("a PRIZE of 49: 40 is not enough", x().least(3, 0), NONE);
        due.is("a BELL of 79: 99 by the CAPTAIN", x().least(4, 0), 20);
        due.is("a GHOST: 0 by any", x().least(5, 0), NONE);
        x().pay(5);
        due.is("who has PAID: 99 by the CAPTAIN", x().least(5, 0), 0);
    }

    // ---- promise 32

    private void wrongPairs() {
        six("h509");
        due.row(0);
        due.both("nobody IN, nothing told", x().wrong(0), 0, 0);
        comeAll(0, 1, 2, 3, 4, 5);
        due.both("all IN, nothing told", x().wrong(0), 0, 0);
        due.row(0, 5);
        due.both("one told", x().wrong(0), 0, 0);
        due.row(0, 0, 1, 2, 3, 4, 5);
        due.both("all right", x().wrong(0), 0, 0);
        due.row(0, 5, 4, 3, 2, 1, 0);
        due.both("all 15 pairs", x().wrong(0), 15, 63);
        due.row(0, 1, 2, 3, 4, 5, 0);
        due.both("the first is last", x().wrong(0), 5, 63);
        due.row(0, 0, 1, 2, 3, 5, 4);
        due.both("the last two", x().wrong(0), 1, 48);
        due.row(0, 5, 0);
        due.both("two told of six", x().wrong(0), 1, 33);
        due.row(0, 1, 0, 3, 2);
        due.both("two pairs, not of each other", x().wrong(0), 2, 15);
    }

    // ---- promises 33 and 34

    private void kindsBy(String name, int want, int... pairs) {
        due.row(0, pairs);
        due.is(name, x().kinds(0, 0), want);
    }

    private void kindsByEnds() {
        due.harbour("h509 s20000");
        kindsBy("by no pair", 63);
        kindsBy("in the first YEAR 0", SHIP | PRIZE | GHOST, 0, 0);
        kindsBy("in 0 a BELL", BELL, 0, 20);
        kindsBy("in 0 a FORGED one", FORGED, 0, 25);
        kindsBy("in 0 a RAFT", RAFT, 0, 90);
        kindsBy("in the last YEAR 999", SHIP | RAFT, 999, 979);
        kindsBy("in 999 a BELL", BELL, 999, 999);
        kindsBy("in 999 a FORGED one", FORGED, 999, 1004);
        kindsBy("in 999 a PRIZE, half of 979", PRIZE, 999, 489);
        kindsBy("in 999 a GHOST", GHOST, 999, 0);
        kindsBy("the greatest AGE that is one", 0, 999, 2000);
        kindsBy("a RAFT at 109, still 90", RAFT, 109, 90);
        kindsBy("a RAFT at 110, just 90", SHIP | RAFT, 110, 90);
        kindsBy("a BELL and a RAFT of 90", BELL | RAFT, 90, 90);
        kindsBy("a FORGED one and a RAFT of 90", FORGED | RAFT, 85, 90);
        kindsBy("the same pair twice", BELL | RAFT, 90, 90, 90, 90);
        kindsBy("two AGES in a YEAR", 0, 50, 30, 50, 50);
        int[] forty = new int[40];
        for (int p = 0; p < 20; p++) {
            forty[2 * p] = p;
        }
        kindsBy("twenty pairs", SHIP | PRIZE | GHOST, forty);
        forty[38] = 21;
        kindsBy("twenty pairs, the last of another YEAR", PRIZE | GHOST, forty);
        due.harbour("h509 s20000 s30000");
        due.row(5, 50, 20);
        due.is("another SHIP by another ROW", x().kinds(1, 5), SHIP);
        due.is("the same ROW is of no KIND for the first", x().kinds(0, 5), 0);
    }

    private void testBy(String name, int years, int part, int... pairs) {
        due.row(0, pairs);
        due.both(name, x().test(0, 0), years, part);
    }

    private void testsByEnds() {
        due.harbour("h509 s50000");
        testBy("one KIND: now, by itself", 0, 1, 52, 2);
        testBy("a GHOST alone", 0, 1, 52, 0);
        testBy("a RAFT alone", 0, 1, 52, 90);
        testBy("SHIP, PRIZE, GHOST are 0 now and 1, 0, 0 then: 2, 1, 0 in two years", 2, 1, 50, 0);
        testBy("PRIZE, GHOST are 0 in a year, 1 and 0 in two", 2, 1, 51, 0);
        testBy("SHIP and RAFT are apart now", 0, 1, 150, 100);
        testBy("all KINDS", 2, 1);
        testBy("BELL and RAFT are apart now", 0, 1, 120, 90);
        due.row(0, 50, 1);
        x().at(0, 1);
        due.both("no KIND", x().test(0, 0), NONE, 1);
        due.harbour("h009 s99000");
        testBy("SHIP, PRIZE, GHOST are 0 for 99 years", 0, 3, 0, 0);
        testBy("all KINDS: those three", 0, 3);
        due.harbour("h009 s98000");
        testBy("in 99 years the SHIP is 1", 99, 2, 0, 0);
        due.harbour("h009 s97000");
        testBy("in 98 years the SHIP is 1, in 99 she is 2, the PRIZE 1", 99, 1, 0, 0);
        due.harbour("h009 s99000");
        x().tea(0);
        testBy("with TEA SHIP and PRIZE are 5 for 99 years, all others apart", 0, 2);
        due.harbour("h009 s98000");
        x().tea(0);
        testBy("and 6 and 5 in just 99", 99, 1);
        due.harbour("h009 g99000");
        x().pay(0);
        testBy("RAFT and GHOST that has PAID", 0, 2, 0, 90);
        testBy("SHIP and PRIZE: both 0 for 99 years", 0, 2, 0, 0);
    }
}
