/** Promises 2 to 7: rows. */
public final class RowsTest {
    private static final int NOTHING = 1, BEYOND = 2, NOUGHT = 4, SIZE = 5;

    public static void main(String[] args) {
        Due due = new Due("RowsTest");
        makesRows(due);
        laysAndReads(due);
        tears(due);
        copies(due);
        means(due);
        due.end();
    }

    private static void makesRows(Due due) {
        due.anew();
        BerthAges x = due.x;
        for (int r = 0; r <= 5; r++) {
            due.is("row(" + r + ", 0)", x.row(r, 0), 0);
        }
        due.is("row(0, 40)", x.row(0, 40), 40);
        due.tells("at(0, 39)", x.at(0, 39), 0);
        x.lay(0, 1, 7);
        due.is("row(0, 2) anew", x.row(0, 2), 2);
        due.rowIs("row(0, 2)", 0, 0, 0);
        due.is("row(0, 41)", x.row(0, 41), BerthAges.BAD);
        due.is("row(0, MAX)", x.row(0, Integer.MAX_VALUE), BerthAges.BAD);
        due.is("row(-1, 1)", x.row(-1, 1), BerthAges.BAD);
        due.is("row(6, 1)", x.row(6, 1), BerthAges.BAD);
        due.is("row(6, -1): BAD is first", x.row(6, -1), BerthAges.BAD);
        due.finds("row(0, -1)", () -> x.row(0, -1), SIZE);
        due.finds("row(0, MIN)", () -> x.row(0, Integer.MIN_VALUE), SIZE);
        due.rowIs("a refused row() leaves it", 0, 0, 0);
    }

    private static void laysAndReads(Due due) {
        due.anew();
        BerthAges x = due.x;
        due.finds("lay(3, 0, 1) of none", () -> x.lay(3, 0, 1), NOTHING);
        due.finds("at(3, 0) of none", () -> x.at(3, 0), NOTHING);
        x.row(3, 3);
        due.tells("lay(3, 2, 9)", x.lay(3, 2, 9), 0);
        due.tells("lay(3, 2, MIN)", x.lay(3, 2, Integer.MIN_VALUE), 9);
        due.tells("at(3, 2)", x.at(3, 2), Integer.MIN_VALUE);
        due.tells("at(3, 0)", x.at(3, 0), 0);
        x.lay(3, 1, 5);
        x.at(3, 1);
        for (int i : new int[] {3, -1, 40, Integer.MAX_VALUE, Integer.MIN_VALUE}) {
            due.finds("lay(3, " + i + ", 1)", () -> x.lay(3, i, 1), BEYOND);
            due.finds("at(3, " + i + ")", () -> x.at(3, i), BEYOND);
        }
        for (int r : new int[] {-1, 6, Integer.MAX_VALUE, Integer.MIN_VALUE}) {
            due.is("lay(" + r + ", 0, 1)", x.lay(r, 0, 1), BerthAges.BAD);
            due.is("at(" + r + ", 0)", x.at(r, 0), BerthAges.BAD);
        }
        due.is("asked() behind refusals", x.asked(), 5);
        due.rowIs("lay()", 3, 0, 5, Integer.MIN_VALUE);
    }

    private static void tears(Due due) {
        due.anew();
        BerthAges x = due.x;
        due.row(2, 4, 5);
        due.is("tear(2)", x.tear(2), 1);
        due.finds("at(2, 0) of a torn one", () -> x.at(2, 0), NOTHING);
        due.finds("tear(2) again", () -> x.tear(2), NOTHING);
        due.is("tear(-1)", x.tear(-1), BerthAges.BAD);
        due.is("tear(6)", x.tear(6), BerthAges.BAD);
        x.row(2, 2);
        due.rowIs("a row that was torn", 2, 0, 0);
    }

    private static void copies(Due due) {
        due.anew();
        BerthAges x = due.x;
        due.row(0, 1, 2, 3, 4, 5);
        due.row(1, 9, 9, 9);
        due.is("copy to another", x.copy(0, 3, 1, 1, 2), 1);
        due.rowIs("copy to another", 1, 9, 4, 5);
        due.rowIs("what is copied stays", 0, 1, 2, 3, 4, 5);
        due.is("copy upwards", x.copy(0, 0, 0, 1, 4), 1);
        due.rowIs("copy upwards", 0, 1, 1, 2, 3, 4);
        due.is("copy downwards", x.copy(0, 2, 0, 0, 3), 1);
        due.rowIs("copy downwards", 0, 2, 3, 4, 3, 4);
        due.is("copy of none at the end", x.copy(0, 5, 1, 3, 0), 1);
        due.finds("copy of none beyond", () -> x.copy(0, 6, 1, 0, 0), BEYOND);
        due.finds("copy of too many", () -> x.copy(0, 4, 1, 0, 2), BEYOND);
        due.finds("copy to too few", () -> x.copy(0, 0, 1, 2, 2), BEYOND);
        due.finds("copy from below", () -> x.copy(0, -1, 1, 0, 1), BEYOND);
        due.finds("copy to below", () -> x.copy(0, 0, 1, -1, 1), BEYOND);
        due.finds("copy of MAX", () -> x.copy(0, 1, 1, 1, Integer.MAX_VALUE), BEYOND);
        due.finds("copy from MAX", () -> x.copy(0, Integer.MAX_VALUE, 1, 0, Integer.MAX_VALUE), BEYOND);
        due.finds("copy from none", () -> x.copy(2, 0, 1, 0, 1), NOTHING);
        due.finds("copy to none", () -> x.copy(0, 0, 2, 0, 1), NOTHING);
        due.finds("NOTHING is ahead of BEYOND", () -> x.copy(0, 99, 2, 0, 1), NOTHING);
        due.finds("SIZE is ahead of NOTHING", () -> x.copy(2, 0, 3, 0, -1), SIZE);
        due.is("BAD is ahead of SIZE", x.copy(6, 0, 0, 0, -1), BerthAges.BAD);
        due.is("copy to a bad one", x.copy(0, 0, -1, 0, 1), BerthAges.BAD);
        due.rowIs("refused copies change nothing", 0, 2, 3, 4, 3, 4);
        due.rowIs("refused copies change nothing", 1, 9, 4, 5);
    }

    private static void means(Due due) {
        due.anew();
        BerthAges x = due.x;
        due.row(0, 1, 2, 5);
        due.tells("mean of 1 2 5", x.mean(0), 2);
        due.row(0, -1, -2, -5, 1);
        due.tells("mean of -1 -2 -5 1", x.mean(0), -1);
        due.row(0, Integer.MAX_VALUE, Integer.MAX_VALUE, Integer.MAX_VALUE);
        due.tells("mean of the greatest", x.mean(0), Integer.MAX_VALUE);
        due.row(0, Integer.MIN_VALUE, Integer.MIN_VALUE);
        due.tells("mean of the least", x.mean(0), Integer.MIN_VALUE);
        due.row(3, new int[40]);
        x.lay(3, 39, 80);
        due.tells("mean of forty", x.mean(3), 2);
        due.row(0, Integer.MIN_VALUE);
        x.mean(0);
        due.row(1);
        due.finds("mean of no ints", () -> x.mean(1), NOUGHT);
        due.finds("mean of no row", () -> x.mean(2), NOTHING);
        due.is("mean(-1)", x.mean(-1), BerthAges.BAD);
        due.is("mean(6)", x.mean(6), BerthAges.BAD);
        due.is("asked() behind refusals", x.asked(), Integer.MIN_VALUE);
    }
}
