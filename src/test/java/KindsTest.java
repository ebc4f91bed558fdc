/** Promises 33 and 34: who one is by her ages, the next year that tells most. */
public final class KindsTest {
    private static final int NOTHING = 1, UNLIKE = 3, SIZE = 5;
    private static final int SHIP = 1, BELL = 2, PRIZE = 4, RAFT = 8, FORGED = 16, GHOST = 32;

    public static void main(String[] args) {
        Due due = new Due("KindsTest");
        tellsKinds(due);
        tellsTests(due);
        refuses(due);
        due.end();
    }

    private static void tellsKinds(Due due) {
        due.harbour("h509 s20000 g20000");
        BerthAges x = due.x;
        due.row(0);
        due.is("by nothing all", x.kinds(0, 0), 63);
        int[][] pairs = {
            {50, 30}, {50, 50}, {50, 15}, {50, 90}, {50, 55}, {50, 0}, {20, 0}, {110, 90}, {120, 100}, {50, 31}};
        int[] sets = {SHIP, BELL, PRIZE, RAFT, FORGED, GHOST, SHIP | PRIZE | GHOST, SHIP | RAFT, SHIP | RAFT, 0};
        for (int p = 0; p < pairs.length; p++) {
            due.row(0, pairs[p]);
            due.is("kinds by " + pairs[p][0] + " " + pairs[p][1], x.kinds(0, 0), sets[p]);
        }
        due.row(0, 120, 100, 50, 30);
        due.is("two pairs", x.kinds(0, 0), SHIP);
        due.row(0, 120, 100, 50, 30, 0, 20);
        due.is("three pairs that no kind fits", x.kinds(0, 0), 0);
        due.row(0, 50, 90);
        due.is("a ghost that has not PAID", x.kinds(1, 0), RAFT);
        x.pay(1);
        due.is("a ghost that has PAID", x.kinds(1, 0), RAFT | GHOST);
        x.tea(0);
        due.row(0, 50, 35);
        due.is("with TEA", x.kinds(0, 0), SHIP);
        due.row(0, 50, 20);
        due.is("a prize's TEA is whole", x.kinds(0, 0), PRIZE);
        int[] full = new int[40];
        for (int p = 0; p < 20; p++) {
            full[2 * p] = 200 + p;
            full[2 * p + 1] = 185 + p;
        }
        due.row(0, full);
        due.is("twenty pairs", x.kinds(0, 0), SHIP | RAFT);
        full[39]++;
        due.row(0, full);
        due.is("the last pair counts", x.kinds(0, 0), 0);
        due.row(0, 999, 2000);
        due.is("the greatest numbers", x.kinds(0, 0), 0);
    }

    private static void tellsTests(Due due) {
        due.harbour("h509 s20000 s60000");
        BerthAges x = due.x;
        due.row(0, 120, 100);
        due.both("a ship or a raft: apart now", x.test(0, 0), 0, 1);
        due.row(0);
        due.both("all kinds: apart now, each by itself", x.test(0, 0), 0, 1);
        due.both("built in 60: ship, prize, ghost are 0 till 60; a year on ship and prize part", x.test(1, 0), 12, 1);
        due.row(0, 50, 0);
        due.both("ship, prize or ghost of 60", x.test(1, 0), 12, 1);
        due.row(0, 50, 1);
        due.both("no kind: what was told stays", x.test(1, 0), BerthAges.NONE, 0);
        due.harbour("h509 g20000 r20000");
        x = due.x;
        x.pay(0);
        due.row(0, 50, 90);
        due.both("a raft and a ghost that has PAID are alike for ever", x.test(0, 0), 0, 2);
        due.row(0, 999, 979);
        due.both("ship, raft, ghost: a ship is apart now", x.test(0, 0), 0, 2);
        due.harbour("h009 s99000");
        x = due.x;
        due.row(0, 0, 0);
        due.both("alike for 99 years", x.test(0, 0), 0, 3);
        due.harbour("h009 s98000");
        due.row(0, 0, 0);
        due.both("apart in the last year that is asked", due.x.test(0, 0), 99, 2);
    }

    private static void refuses(Due due) {
        due.harbour("h509 s20000");
        BerthAges x = due.x;
        for (int i : new int[] {-1, 1}) {
            due.is("kinds(" + i + ", 0)", x.kinds(i, 0), BerthAges.BAD);
            due.is("test(" + i + ", 0)", x.test(i, 0), BerthAges.BAD);
        }
        for (int r : new int[] {-1, 6}) {
            due.is("kinds(0, " + r + ")", x.kinds(0, r), BerthAges.BAD);
            due.is("test(0, " + r + ")", x.test(0, r), BerthAges.BAD);
        }
        due.finds("kinds of no row", () -> x.kinds(0, 0), NOTHING);
        due.finds("test of no row", () -> x.test(0, 0), NOTHING);
        due.row(0, 50);
        due.finds("kinds of half a pair", () -> x.kinds(0, 0), SIZE);
        due.finds("test of half a pair", () -> x.test(0, 0), SIZE);
        due.row(0, -1, 30, 50);
        due.finds("SIZE is ahead of UNLIKE", () -> x.kinds(0, 0), SIZE);
        int[][] unlike = {{-1, 0}, {1000, 0}, {0, -1}, {0, 2001}, {50, 1, 1000, 30}, {50, 1, 50, 2001}};
        for (int[] row : unlike) {
            due.row(0, row);
            due.finds("kinds by " + java.util.Arrays.toString(row), () -> x.kinds(0, 0), UNLIKE);
            due.finds("test by " + java.util.Arrays.toString(row), () -> x.test(0, 0), UNLIKE);
        }
    }
}
