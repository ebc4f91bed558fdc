/** Promises 15 to 23: deeds. */
public final class DeedsTest {
    private static final int NOTHING = 1, UNLIKE = 3;

    public static void main(String[] args) {
        Due due = new Due("DeedsTest");
        comesAndLeaves(due);
        settlesLikeAges(due);
        pays(due);
        hasTea(due);
        tides(due);
        years(due);
        fills(due);
        undoes(due);
        keeps(due);
        withoutShips(due);
        due.end();
    }

    private static void comesAndLeaves(Due due) {
        due.harbour("h506 s20000 s10000 s30000");
        BerthAges x = due.x;
        due.is("come(0)", x.come(0), 0);
        due.is("hours LEFT", x.count(3), 5);
        due.is("come(2): she is younger", x.come(2), 0);
        due.is("come(1): she is older", x.come(1), 2);
        due.is("hours LEFT 1", x.count(3), 1);
        due.is("all SHIFTED", x.count(5), 2);
        due.is("IN", x.count(4), 7);
        due.is("come(0) again", x.come(0), BerthAges.STATE);
        due.is("leave(0): 2 hours, 1 is LEFT", x.leave(0), BerthAges.SPENT);
        due.is("leave(2): just enough", x.leave(2), 0);
        due.is("hours LEFT 0", x.count(3), 0);
        due.is("leave(2) again: STATE is ahead of SPENT", x.leave(2), BerthAges.STATE);
        due.is("come(2): none is LEFT", x.come(2), BerthAges.SPENT);
        x.tide();
        due.is("leave(1): the other is younger", x.leave(1), 1);
        due.is("all SHIFTED 3", x.count(5), 3);
        due.is("DEEDS", x.count(2), 6);
        for (int i : new int[] {-1, 3, Integer.MIN_VALUE, Integer.MAX_VALUE}) {
            due.is("come(" + i + ")", x.come(i), BerthAges.BAD);
            due.is("leave(" + i + ")", x.leave(i), BerthAges.BAD);
        }
    }

    private static void settlesLikeAges(Due due) {
        due.harbour("h509 s20500 s20600 s20610 s20500 b40510");
        BerthAges x = due.x;
        due.is("come(3)", x.come(3), 0);
        due.is("a lesser number is ahead", x.come(0), 1);
        due.is("a greater rat is ahead, a bell's age is like", x.come(4), 2);
        due.is("a greater captain is ahead: 4 hours, 3 are LEFT", x.come(1), BerthAges.SPENT);
        x.tide();
        due.is("a greater captain is ahead of all three", x.come(1), 3);
        due.is("a greater rat of such", x.hours(2), 5);
    }

    private static void pays(Due due) {
        due.harbour("h909 g00100 r00200 g99300");
        BerthAges x = due.x;
        due.is("pay(0)", x.pay(0), 90);
        due.is("pay(0) again", x.pay(0), BerthAges.STATE);
        due.finds("pay(1), a raft", () -> x.pay(1), UNLIKE);
        x.tea(2);
        x.tea(2);
        due.is("pay(2)", x.pay(2), 90);
        x.year();
        due.is("AGE of one past 90", x.age(0, 91), 91);
        due.is("pay(3)", x.pay(3), BerthAges.BAD);
        due.is("pay(-1)", x.pay(-1), BerthAges.BAD);
        due.is("DEEDS", x.count(2), 5);
    }

    private static void hasTea(Due due) {
        due.harbour("h505 s40000 g40000 p41000 r00000");
        BerthAges x = due.x;
        for (int cup = 1; cup <= 4; cup++) {
            due.is("tea(0) " + cup, x.tea(0), 10 + 5 * cup);
            due.is("tea(1) of a ghost", x.tea(1), 0);
            due.is("tea(2) of a prize", x.tea(2), 4 + 5 * cup);
            due.is("tea(3) of a raft", x.tea(3), 90);
        }
        due.is("tea(0) at 20", x.tea(0), BerthAges.STATE);
        due.tells("TEA", x.ship(0, 5), 20);
        due.is("tea(4)", x.tea(4), BerthAges.BAD);
        due.is("tea(-1)", x.tea(-1), BerthAges.BAD);
        due.is("hours LEFT stay", x.count(3), 5);
    }

    private static void tides(Due due) {
        due.harbour("h507 s10002 s20004 s30005 s40009");
        BerthAges x = due.x;
        due.is("nobody is IN", x.tide(), 0);
        x.come(0);
        x.come(1);
        x.come(2);
        due.is("hours LEFT 4", x.count(3), 4);
        due.is("DRAUGHT 2 in 2, 4 in 3, 5 in 4", x.tide(), 2 | 4);
        due.is("hours LEFT 7", x.count(3), 7);
        due.is("once more", x.tide(), 2 | 4);
        due.is("all AGROUND", x.count(6), 4);
        due.tells("AGROUND of 1", x.ship(1, 8), 2);
        due.tells("AGROUND of 0", x.ship(0, 8), 0);
        due.tells("AGROUND of one outside", x.ship(3, 8), 0);
    }

    private static void years(Due due) {
        due.harbour("h993 p99000 s90000");
        BerthAges x = due.x;
        due.is("year()", x.year(), 100);
        due.is("year() again", x.year(), 101);
        due.tells("AGE of a prize", x.ship(0, 6), 1);
        due.is("hours LEFT stay", x.count(3), 3);
        due.is("count(1)", x.count(1), 101);
    }

    private static void fills(Due due) {
        due.harbour("h991 g99009 s00000");
        BerthAges x = due.x;
        for (int d = 0; d < 40; d++) {
            due.is("year() " + d, x.year(), 100 + d);
        }
        due.is("year() beyond 40 DEEDS", x.year(), BerthAges.FULL);
        due.is("tide()", x.tide(), BerthAges.FULL);
        due.is("come(0)", x.come(0), BerthAges.FULL);
        due.is("pay(0)", x.pay(0), BerthAges.FULL);
        due.is("tea(0)", x.tea(0), BerthAges.FULL);
        due.is("leave(0): STATE is ahead of FULL", x.leave(0), BerthAges.STATE);
        due.finds("pay(1): UNLIKE is ahead of FULL", () -> x.pay(1), UNLIKE);
        due.is("the YEAR stays", x.count(1), 139);
        x.undo(34);
        x.come(0);
        x.pay(0);
        for (int cup = 0; cup < 4; cup++) {
            x.tea(0);
        }
        due.is("DEEDS", x.count(2), 40);
        due.is("come(0): STATE is ahead of FULL", x.come(0), BerthAges.STATE);
        due.is("leave(0): SPENT is ahead of FULL", x.leave(0), BerthAges.SPENT);
        due.is("come(1): SPENT is ahead of FULL", x.come(1), BerthAges.SPENT);
        due.is("pay(0): STATE is ahead of FULL", x.pay(0), BerthAges.STATE);
        due.is("tea(0): STATE is ahead of FULL", x.tea(0), BerthAges.STATE);
        x.undo(38);
        x.tide();
        x.year();
        due.is("leave(0): FULL", x.leave(0), BerthAges.FULL);
    }

    /** A harbour with the first n of eight deeds done. */
    private static void play(Due due, int n) {
        due.harbour("h509 s10009 g20009 b40009");
        BerthAges x = due.x;
        int[] answers = {
            n > 0 ? x.come(0) : 0, n > 1 ? x.come(2) : 0, n > 2 ? x.tide() : 0, n > 3 ? x.pay(1) : 0,
            n > 4 ? x.come(1) : 0, n > 5 ? x.tea(0) : 0, n > 6 ? x.year() : 0, n > 7 ? x.leave(1) : 0};
        int[] want = {0, 0, 5, 90, 2, 45, 51, 2};
        for (int d = 0; d < n; d++) {
            due.is("deed " + d, answers[d], want[d]);
        }
        due.is("DEEDS", x.count(2), n);
    }

    private static void undoes(Due due) {
        for (int n = 0; n <= 8; n++) {
            play(due, n);
            long want = due.x.digest();
            play(due, 8);
            due.is("undo(" + n + ")", due.x.undo(n), 8 - n);
            due.is("as it was ahead of deed " + n, due.x.digest(), want);
            due.is("DEEDS behind undo", due.x.count(2), n);
        }
        play(due, 8);
        due.is("undo(-1)", due.x.undo(-1), BerthAges.BAD);
        due.is("undo(9)", due.x.undo(9), BerthAges.BAD);
        due.x.undo(3);
        due.is("a deed behind undo", due.x.pay(1), 90);
        due.is("and one more undo", due.x.undo(0), 4);
    }

    private static void keeps(Due due) {
        play(due, 6);
        BerthAges x = due.x;
        due.is("keep(2)", x.keep(2), 6);
        long then = x.digest();
        x.undo(2);
        due.is("keep(0)", x.keep(0), 2);
        due.is("count(10)", x.count(10), 2);
        due.finds("on(1), which is missing", () -> x.on(1), NOTHING);
        x.year();
        due.is("on(2)", x.on(2), 6);
        due.is("DEEDS come back", x.count(2), 6);
        due.is("undo goes into them", x.undo(5), 1);
        due.is("what is kept stays", x.on(2), 6);
        due.is("on(0)", x.on(0), 2);
        due.is("keep over an older one", x.keep(2), 2);
        due.is("on(2) is the newer one", x.on(2), 2);
        due.is("keep(-1)", x.keep(-1), BerthAges.BAD);
        due.is("keep(3)", x.keep(3), BerthAges.BAD);
        due.is("on(-1)", x.on(-1), BerthAges.BAD);
        due.is("on(3)", x.on(3), BerthAges.BAD);
        play(due, 6);
        due.x.keep(2);
        due.x.leave(2);
        due.x.tide();
        due.x.on(2);
        due.is("all is as it was kept", due.x.digest(), then);
    }

    private static void withoutShips(Due due) {
        due.anew();
        BerthAges x = due.x;
        due.is("come(0)", x.come(0), BerthAges.BAD);
        due.is("leave(0)", x.leave(0), BerthAges.BAD);
        due.is("pay(0)", x.pay(0), BerthAges.BAD);
        due.is("tea(0)", x.tea(0), BerthAges.BAD);
        due.is("tide()", x.tide(), BerthAges.STATE);
        due.is("year()", x.year(), BerthAges.STATE);
        due.is("undo(0)", x.undo(0), 0);
        due.is("undo(1)", x.undo(1), BerthAges.BAD);
        due.is("keep(0)", x.keep(0), BerthAges.STATE);
        due.is("keep(3): BAD is ahead of STATE", x.keep(3), BerthAges.BAD);
        due.finds("on(0)", () -> x.on(0), NOTHING);
    }
}
