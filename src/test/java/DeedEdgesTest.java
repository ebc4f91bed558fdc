import java.util.function.Consumer;

/** Terms 2, promises 11 and 15 to 23 at their edges: hours, depths, TEA, 40 DEEDS, what is undone, kept. */
public final class DeedEdgesTest {
    private final Due due = new Due("DeedEdgesTest");

    public static void main(String[] args) {
        DeedEdgesTest test = new DeedEdgesTest();
        test.atFirst();
        test.anew();
        test.hoursThatAreJustLeft();
        test.moreHoursThanATideHas();
        test.shiftedByNoneToFive();
        test.leavingTakesHoursToo();
        test.teaToTwenty();
        test.depths();
        test.hoursAreAsAtFirst();
        test.agroundOnceMore();
        test.yearsBeyondTwoFigures();
        test.theFortiethDeed();
        test.refusedOnesAreNoDeeds();
        test.undoEachKind();
        test.undoWithoutShips();
        test.undoToItsEnds();
        test.undoWithinLots();
        test.keepNoneAndForty();
        test.keptOnesStay();
        test.harbourLetsKeptOnesGo();
        test.due.end();
    }

    private BerthAges x() {
        return due.x;
    }

    private void counts(String name, int... want) {
        for (int what = 0; what < want.length; what++) {
            due.is(name + ": count(" + what + ")", x().count(what), want[what]);
        }
    }

    private void atFirst() {
        due.harbour("h507 s20009 g10009 f00009");
        counts("at first", 3, 50, 0, 7, 0, 0, 0, 1, 0, 1, 0);
        for (int i = 0; i < 3; i++) {
            due.tells("no TEA", x().ship(i, 5), 0);
            due.tells("outside", x().ship(i, 7), BerthAges.NONE);
            due.tells("not AGROUND", x().ship(i, 8), 0);
        }
        due.is("has not PAID", x().mark(1, 5), 0);
    }

    private void anew() {
        due.harbour("h507 s20009 g10009 f00009");
        x().come(0);
        x().come(2);
        x().pay(1);
        x().tea(1);
        x().year();
        x().tide();
        x().keep(0);
        due.row(3, 5, 6);
        x().odds(0, 0, 5);
        x().at(3, 1);
        x().at(3, 2);
        counts("ahead of it", 3, 51, 6, 7, 5, 1, 2, 1, 1, 1, 1);
        due.is("harbour(0) anew", x().harbour(0), 3);
        counts("anew", 3, 50, 0, 7, 0, 0, 0, 1, 1, 1, 0);
        for (int i = 0; i < 3; i++) {
            due.is("anew no TEA", x().ship(i, 5) + x().asked(), 1);
            due.is("anew not AGROUND", x().ship(i, 8) + x().asked(), 1);
        }
        due.is("anew not PAID", x().mark(1, 5), 0);
        due.is("what was found stays", x().finding(), 2);
        due.is("what was told stays: upper()", x().upper(), 5);
        due.is("what was told stays: lower()", x().lower(), 12);
        due.rowIs("ROWS stay", 3, 5, 6);
        due.write(2, "h019 b00000");
        due.is("another one, of fewer SHIPS", x().harbour(2), 1);
        counts("another one", 1, 1, 0, 9, 0, 0, 0, 1, 1, 2, 0);
        due.is("no SHIP 1 any more", x().ship(1, 0), BerthAges.BAD);
    }

    private void hoursThatAreJustLeft() {
        due.harbour("h503 s20000 s10000 s00000");
        due.is("1 of 3", x().come(0), 0);
        due.is("2 of 2", x().come(1), 1);
        due.is("none is LEFT", x().count(3), 0);
        due.is("1 of 0", x().leave(0), BerthAges.SPENT);
        due.is("3 of 0", x().come(2), BerthAges.SPENT);
        x().tide();
        due.is("3 of 3", x().come(2), 2);
        due.is("none is LEFT again", x().count(3), 0);
        due.harbour("h509 s20000 s10000 s00000 s30000");
        x().come(3);
        x().come(0);
        x().come(1);
        due.is("3 are LEFT", x().count(3), 3);
        due.is("4 of 3", x().come(2), BerthAges.SPENT);
        due.is("1 of 3 still", x().leave(3), 0);
        due.is("3 of 2", x().come(2), BerthAges.SPENT);
    }

    private void moreHoursThanATideHas() {
        due.harbour("h502 s20000 s10000 s00000");
        x().come(0);
        x().tide();
        due.is("2 of 2", x().come(1), 1);
        x().tide();
        due.is("3 of 2, though all are LEFT", x().come(2), BerthAges.SPENT);
        x().tide();
        due.is("3 of 2 by one TIDE more", x().come(2), BerthAges.SPENT);
        due.harbour("h501 s20000 s20000");
        x().come(1);
        x().tide();
        due.is("2 of 1", x().come(0), BerthAges.SPENT);
        due.is("1 of 1", x().leave(1), 0);
        x().tide();
        due.is("alone, 1 of 1", x().come(0), 0);
    }

    private void shiftedByNoneToFive() {
        due.harbour("h509 s00000 s10000 s20000 s30000 s40000 s50000");
        int all = 0;
        for (int i = 5; i >= 0; i--) {
            due.is("hours(" + i + ")", x().hours(i), 6 - i);
            due.is("come(" + i + ")", x().come(i), 5 - i);
            all += 5 - i;
            due.is("SHIFTED in all", x().count(5), all);
            due.is("hours LEFT", x().count(3), 9 - (6 - i));
            x().tide();
        }
        due.is("all are IN", x().count(4), 63);
        due.is("the oldest goes out", x().hours(0), 6);
        due.is("the youngest goes out", x().hours(5), 1);
        due.harbour("h509 s00000 s10000 s20000 s30000 s40000 s50000");
        for (int i = 0; i < 6; i++) {
            due.is("the oldest first: come(" + i + ")", x().come(i), 0);
        }
        due.is("nobody is SHIFTED", x().count(5), 0);
        due.is("an hour each", x().count(3), 3);
    }

    private void leavingTakesHoursToo() {
        due.harbour("h509 s00000 s10000 s20000 s30000 s40000 s50000");
        for (int i = 0; i < 6; i++) {
            x().come(i);
        }
        due.is("6 of 3", x().leave(0), BerthAges.SPENT);
        due.is("4 of 3", x().leave(2), BerthAges.SPENT);
        due.is("3 of 3", x().leave(3), 2);
        due.is("none is LEFT", x().count(3), 0);
        due.is("1 of 0", x().leave(5), BerthAges.SPENT);
        due.is("SHIFTED by going out", x().count(5), 2);
        due.is("who is IN", x().count(4), 63 - 8);
        x().tide();
        due.is("5 of 9", x().leave(0), 4);
        due.tells("those behind are nearer", x().ship(1, 7), 0);
        due.tells("the last one, too", x().ship(5, 7), 3);
    }

    private void teaToTwenty() {
        due.harbour("h509 s50000 s50000");
        for (int cup = 1; cup <= 4; cup++) {
            due.is("cup " + cup, x().tea(0), 5 * cup);
            due.tells("TEA", x().ship(0, 5), 5 * cup);
        }
        due.is("a cup more", x().tea(0), BerthAges.STATE);
        due.tells("TEA 20", x().ship(0, 5), 20);
        due.is("the other one's first", x().tea(1), 5);
        x().undo(3);
        due.is("undone from the fourth cup on: it is 20 again", x().tea(0), 20);
    }

    /** A draught of as much as her berth is deep is fine, one more is not; berth k is k + 2 deep. */
    private void depths() {
        for (int berth = 0; berth < 6; berth++) {
            for (int draught = 0; draught <= 9; draught++) {
                StringBuilder signs = new StringBuilder("h509");
                for (int i = 0; i < 6; i++) {
                    signs.append(" s").append(i).append("000").append(i == berth ? draught : 0);
                }
                due.harbour(signs.toString());
                for (int i = 0; i < 6; i++) {
                    x().come(i);
                }
                int over = Math.max(0, draught - berth - 2);
                int bits = over > 0 ? 1 << berth : 0;
                String name = "DRAUGHT " + draught + " at BERTH " + berth;
                due.both(name + ": ground()", x().ground(), bits, over);
                due.is(name + ": tide()", x().tide(), bits);
                due.tells(name + ": AGROUND", x().ship(berth, 8), over > 0 ? 1 : 0);
                due.is(name + ": all AGROUND", x().count(6), over > 0 ? 1 : 0);
            }
        }
        due.harbour("h509 s20009");
        due.is("one outside is not AGROUND", x().tide(), 0);
        due.both("nor would be", x().ground(), 0, 0);
    }

    private void hoursAreAsAtFirst() {
        due.harbour("h504 s20000 s10000");
        x().tide();
        due.is("all were LEFT: not more than at first", x().count(3), 4);
        x().come(0);
        x().tide();
        due.is("3 were LEFT", x().count(3), 4);
        x().come(1);
        x().leave(1);
        due.is("none is LEFT", x().count(3), 0);
        x().year();
        x().tea(0);
        due.is("no hours by a YEAR, by TEA", x().count(3), 0);
        x().tide();
        due.is("none was LEFT", x().count(3), 4);
    }

    private void agroundOnceMore() {
        due.harbour("h509 s20003 s10009 s00000");
        x().come(0);
        for (int time = 1; time <= 3; time++) {
            due.is("tide " + time, x().tide(), 1);
            due.tells("AGROUND " + time, x().ship(0, 8), time);
        }
        x().come(1);
        due.is("3 in 3 is fine, 9 in 2 is not", x().tide(), 2);
        due.tells("how often stays", x().ship(0, 8), 3);
        x().leave(0);
        due.tells("how often stays outside", x().ship(0, 8), 3);
        due.is("all AGROUND", x().count(6), 4);
        x().year();
        due.is("nobody by a YEAR", x().count(6), 4);
    }

    private void yearsBeyondTwoFigures() {
        due.harbour("h009 s00000");
        due.is("0, then 1", x().year(), 1);
        due.harbour("h999 s00000");
        for (int year = 100; year <= 139; year++) {
            due.is("year() to " + year, x().year(), year);
        }
        due.is("count(1)", x().count(1), 139);
        due.tells("AGE", x().ship(0, 6), 139);
        // With 40 deeds from the year 99 no run comes near 999, so FULL is what ends it.
        due.is("40 DEEDS", x().year(), BerthAges.FULL);
    }

    /** Each deed is taken as the fortieth and refused as the one behind it. */
    private void theFortiethDeed() {
        String[] names = {"come", "leave", "pay", "tea", "tide", "year"};
        int[] due40 = {0, 0, 90, 55, 2, 51};
        for (int which = 0; which < names.length; which++) {
            due.harbour("h509 s00000 s10009 g20000");
            x().come(1);
            for (int d = 1; d < 39; d++) {
                x().tide();
            }
            due.is("39 DEEDS", x().count(2), 39);
            due.is(names[which] + " as the fortieth", deed(which), due40[which]);
            due.is("40 DEEDS by " + names[which], x().count(2), 40);
            x().undo(39);
            x().tide();
            due.is(names[which] + " behind the fortieth", deed(which), BerthAges.FULL);
            due.is("still 40 DEEDS", x().count(2), 40);
        }
    }

    private int deed(int which) {
        switch (which) {
            case 0: return x().come(2);
            case 1: return x().leave(1);
            case 2: return x().pay(2);
            case 3: return x().tea(0);
            case 4: return x().tide();
            default: return x().year();
        }
    }

    private void refusedOnesAreNoDeeds() {
        due.harbour("h501 s20000 s10000 g00000");
        x().come(0);
        int[] refused = {x().come(0), x().come(1), x().come(3), x().leave(1), x().pay(0), x().tea(-1), x().undo(2)};
        due.is("DEEDS behind " + refused.length + " refused calls", x().count(2), 1);
        int[] asked = {x().hours(0), x().ground(), x().enter(0), x().berths(1), x().duel(3), x().when(0, 0)};
        due.is("DEEDS behind " + asked.length + " questions", x().count(2), 1);
        x().keep(0);
        x().on(0);
        due.is("keeping is no DEED", x().count(2), 1);
    }

    private void undoEachKind() {
        undoOne("come", x -> x.come(0));
        undoOne("leave", x -> x.leave(1));
        undoOne("pay", x -> x.pay(2));
        undoOne("tea", x -> x.tea(1));
        undoOne("tide", BerthAges::tide);
        undoOne("year", BerthAges::year);
        undoOne("lots", x -> x.lots(1, 77));
    }

    private void undoOne(String name, Consumer<BerthAges> deed) {
        due.harbour("h509 s30009 s10009 g20009");
        x().come(1);
        x().come(2);
        long before = x().digest();
        int paid = x().mark(2, 5);
        deed.accept(x());
        due.is(name + " is a DEED", x().count(2), 3);
        due.is(name + " changes something", x().digest() == before ? 1 : 0, 0);
        due.is(name + " undone", x().undo(2), 1);
        due.is(name + " undone: all as it was", x().digest(), before);
        due.is(name + " undone: PAID as it was", x().mark(2, 5), paid);
        due.is(name + " undone: DEEDS", x().count(2), 2);
    }

    private void undoWithoutShips() {
        due.anew();
        long before = x().digest();
        due.is("none of none without SHIPS", x().undo(0), 0);
        due.is("nothing changes", x().digest(), before);
        due.write(1, "h507");
        due.is("a FAULT", x().harbour(1), BerthAges.STATE);
        x().undo(0);
        counts("no YEAR, no hours by a HARBOUR that was refused", 0, 0, 0, 0, 0, 0, 0, 0, 0, 1, 0);
    }

    private void undoToItsEnds() {
        due.harbour("h509 s30009 g10009");
        long atFirst = x().digest();
        due.is("none of none", x().undo(0), 0);
        for (int d = 0; d < 40; d++) {
            x().year();
        }
        long full = x().digest();
        due.is("none of 40", x().undo(40), 0);
        due.is("nothing changes", x().digest(), full);
        due.is("one of 40", x().undo(39), 1);
        due.is("a place for one", x().year(), 139 - 49);
        due.is("and no more", x().year(), BerthAges.FULL);
        due.is("all 40", x().undo(0), 40);
        due.is("all as at first", x().digest(), atFirst);
        for (int d = 0; d < 40; d++) {
            x().tide();
        }
        due.is("40 again", x().count(2), 40);
        due.is("and no more", x().tide(), BerthAges.FULL);
    }

    private void undoWithinLots() {
        String signs = "h503 s30009 s10003 g20005";
        due.harbour(signs);
        x().lots(7, 4711);
        long seven = x().digest();
        due.harbour(signs);
        x().lots(20, 4711);
        due.is("lots are DEEDS by themselves", x().undo(7), 13);
        due.is("as by fewer lots", x().digest(), seven);
    }

    private void keepNoneAndForty() {
        due.harbour("h504 s30009 s10009 g20009");
        due.is("kept with no DEED", x().keep(0), 0);
        long none = x().digest();
        x().lots(20, 5);
        x().lots(19, 6);
        x().pay(2);
        due.is("kept with 40", x().keep(2), 40);
        due.is("on(0)", x().on(0), 0);
        due.is("no DEED", x().count(2), 0);
        due.is("not PAID", x().mark(2, 5), 0);
        due.is("on(2)", x().on(2), 40);
        due.is("40 DEEDS", x().count(2), 40);
        due.is("PAID", x().mark(2, 5), 1);
        due.is("no more than 40", x().year(), BerthAges.FULL);
        due.is("all can be undone", x().undo(0), 40);
        x().on(0);
        due.harbour("h504 s30009 s10009 g20009");
        due.is("keep(0) again", x().keep(0), 0);
        due.is("as kept with no DEED", x().digest(), none);
        due.is("two are kept", x().keep(1) + x().count(10), 2);
        due.is("three are kept", x().keep(2) + x().count(10), 3);
        due.is("a place is kept in again", x().keep(2) + x().count(10), 3);
    }

    private void keptOnesStay() {
        due.harbour("h504 s30009 s10009 g20009");
        x().come(0);
        x().tea(1);
        x().keep(1);
        long kept = x().digest();
        x().undo(0);
        x().year();
        x().lots(20, 9);
        due.is("on(1) behind other DEEDS", x().on(1), 2);
        due.is("as it was kept", x().digest(), kept);
        x().undo(1);
        due.is("on(1) behind undo", x().on(1), 2);
        due.is("as it was kept again", x().digest(), kept);
        due.is("DEEDS go on from it", x().tide(), 1);
        due.is("3 DEEDS", x().count(2), 3);
        due.is("on(1) behind one more", x().on(1), 2);
        x().row(0, 3);
        x().at(0, 9);
        x().on(1);
        due.is("ROWS are not kept", x().count(8), 1);
        due.is("FINDINGS are not kept", x().findings(2), 1);
    }

    private void harbourLetsKeptOnesGo() {
        due.harbour("h504 s30009");
        for (int k = 0; k < 3; k++) {
            x().keep(k);
        }
        due.is("kept", x().count(10), 3);
        x().harbour(0);
        due.is("none is kept", x().count(10), 0);
        for (int k = 0; k < 3; k++) {
            int place = k;
            due.finds("on(" + k + ")", () -> x().on(place), 1);
        }
    }
}
