/** Promises 27 and 28: in which order those outside come in. */
public final class EntryTest {
    private static final int NOTHING = 1, UNLIKE = 3;

    public static void main(String[] args) {
        Due due = new Due("EntryTest");
        findsOldestFirst(due);
        findsFewestTides(due);
        findsNone(due);
        followsRows(due);
        refuses(due);
        due.end();
    }

    private static void findsOldestFirst(Due due) {
        due.harbour("h509 s30000 s10000 s20000");
        BerthAges x = due.x;
        due.both("oldest first: nobody SHIFTED", x.enter(0), 0, 0);
        due.rowIs("oldest first", 0, 1, 2, 0);
        due.is("nobody came in by asking", x.count(4), 0);
        due.is("no hours by asking", x.count(3), 9);
        due.is("no deeds by asking", x.count(2), 0);
        x.come(0);
        due.both("the younger one is SHIFTED by both", x.enter(0), 0, 2);
        due.rowIs("the two outside", 0, 1, 2);
        x.come(2);
        x.come(1);
        due.row(0, 7, 7);
        due.both("nobody is outside", x.enter(0), 0, 0);
        due.rowIs("no order", 0);
        due.harbour("h503 s30000 s10000 s20000 s00000");
        due.both("an hour each, 3 hours a tide", due.x.enter(1), 1, 0);
        due.rowIs("oldest first of four", 1, 3, 1, 2, 0);
        due.harbour("h501 s10000 s10010 s10100 s10000");
        due.both("an hour a tide", due.x.enter(1), 3, 0);
        due.rowIs("captains, rats, numbers settle", 1, 2, 1, 0, 3);
    }

    private static void findsFewestTides(Due due) {
        due.harbour("h504 s00000 s10000 s20000 s30000");
        BerthAges x = due.x;
        x.come(1);
        x.come(3);
        // 0 first takes 3 hours (2 are LEFT), 2 then 2: two tides, 3 SHIFTED.
        // 2 first takes the 2 hours LEFT, 0 then 4: one tide, 4 SHIFTED.
        due.both("fewest TIDES go ahead of fewest SHIFTED", x.enter(1), 1, 4);
        due.rowIs("the younger one first", 1, 2, 0);
        due.both("order() of it", x.order(1), 1, 4);
        due.row(1, 0, 2);
        due.both("order() the other way round", x.order(1), 2, 3);
        x.tide();
        // With all 4 hours LEFT both orders need one tide: 3 and 2 hours, or 2 and 4.
        due.both("of like TIDES the fewest SHIFTED", x.enter(1), 1, 3);
        due.rowIs("oldest first", 1, 0, 2);
    }

    private static void findsNone(Due due) {
        due.harbour("h501 s20000 s10000");
        BerthAges x = due.x;
        due.both("an hour each", x.enter(3), 1, 0);
        due.rowIs("oldest first", 3, 1, 0);
        x.come(0);
        x.at(3, 0);
        due.both("the older one takes 2 hours, a TIDE has 1", x.enter(3), BerthAges.NONE, 1);
        due.rowIs("the row stays", 3, 1, 0);
    }

    private static void followsRows(Due due) {
        due.harbour("h503 s30000 s10000 s20000 s00000");
        BerthAges x = due.x;
        due.row(0);
        due.both("an order of none", x.order(0), 0, 0);
        due.row(0, 0, 2, 1);
        due.both("1, 2, 3 hours by tides of 3", x.order(0), 1, 3);
        due.row(0, 0, 2);
        due.both("just the hours LEFT", x.order(0), 0, 1);
        due.row(0, 0, 2, 1, 3);
        due.both("the last takes 4 hours: what was told stays", x.order(0), BerthAges.NONE, 0);
        due.row(0, 1, 3, 0);
        due.both("1, 2, 1 hours", x.order(0), 1, 1);
        x.come(0);
        due.row(0, 2, 3);
        due.both("2 of 2 LEFT, then 3", x.order(0), 1, 3);
        due.is("nobody came in by asking", x.count(4), 1);
        due.rowIs("the row stays", 0, 2, 3);
    }

    private static void refuses(Due due) {
        due.anew();
        due.is("enter(0) without ships", due.x.enter(0), BerthAges.STATE);
        due.is("enter(6): BAD is ahead of STATE", due.x.enter(6), BerthAges.BAD);
        due.is("order(0): STATE is ahead of NOTHING", due.x.order(0), BerthAges.STATE);
        due.is("order(-1): BAD is ahead of STATE", due.x.order(-1), BerthAges.BAD);
        due.harbour("h502 s30000 s10000 s20000 s20000");
        BerthAges x = due.x;
        due.is("enter(-1)", x.enter(-1), BerthAges.BAD);
        due.is("order(6)", x.order(6), BerthAges.BAD);
        due.finds("order of no row", () -> x.order(0), NOTHING);
        int[][] unlike = {{4}, {-1}, {Integer.MIN_VALUE}, {32}, {0, 0}, {1, 2, 1}, {0, 2, 1, 7}};
        for (int[] row : unlike) {
            due.row(0, row);
            due.finds("order " + java.util.Arrays.toString(row), () -> x.order(0), UNLIKE);
        }
        x.come(1);
        due.row(0, 0, 1);
        due.finds("one that is IN", () -> x.order(0), UNLIKE);
        due.row(0, 0, 2, 3, 3);
        due.finds("UNLIKE is ahead of NONE", () -> x.order(0), UNLIKE);
    }
}
