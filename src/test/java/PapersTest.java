/** Promises 29 to 32: years, papers, whose telling is wrong. */
public final class PapersTest {
    private static final int NOTHING = 1, UNLIKE = 3;

    public static void main(String[] args) {
        Due due = new Due("PapersTest");
        tellsWhen(due);
        tellsBuilt(due);
        tellsLeast(due);
        tellsWrong(due);
        refuses(due);
        due.end();
    }

    private static void tellsWhen(Due due) {
        // Ages now: a ship of 50, a raft of 90, a prize of 25, a bell built in 60: 20 for ten years more.
        due.harbour("h509 s00000 r10000 p00900 b60000");
        BerthAges x = due.x;
        due.is("alone, as if IN", x.when(0, 0), 0);
        due.is("alone at berth 1", x.when(0, 1), BerthAges.NONE);
        x.come(1);
        due.is("the ship is ahead of the raft at 90, by her number", x.when(0, 0), 40);
        due.is("the ship is at berth 1 now", x.when(0, 1), 0);
        due.is("the raft by herself", x.when(1, 0), 0);
        x.come(0);
        due.is("the raft is passed in 40 years", x.when(1, 1), 40);
        due.is("the prize is behind both for ever", x.when(2, 2), 0);
        due.is("the prize never passes", x.when(2, 1), BerthAges.NONE);
        x.come(2);
        due.is("the bell passes the prize at 41, who is 40", x.when(3, 2), 31);
        due.is("the bell till then", x.when(3, 3), 0);
        due.is("she does not come in by asking", x.count(4), 7);
        due.is("the YEAR stays", x.count(1), 50);
        // A raft of 90 is met by ships in just 99 years and in just 100.
        due.harbour("h009 r99500 s08600 s09600");
        x = due.x;
        x.come(0);
        due.is("in 98 years", x.when(1, 0), 98);
        due.is("in 99 years", x.when(2, 0), 99);
        due.harbour("h009 r99500 s10600");
        x = due.x;
        x.come(0);
        due.is("not in 100 years", x.when(1, 0), BerthAges.NONE);
    }

    private static void tellsBuilt(Due due) {
        due.harbour("h509 s20500 s30500 s90600 r50000");
        BerthAges x = due.x;
        due.both("alone: all 100 years", x.built(2, 0), 100, 0);
        due.both("alone at berth 1", x.built(2, 1), BerthAges.NONE, 0);
        x.come(0);
        x.come(1);
        due.both("ahead of 20: 0 to 20, as the captain is greater", x.built(2, 0), 21, 0);
        due.both("between: 21 to 30", x.built(2, 1), 10, 21);
        due.both("behind both: 31 to 99", x.built(2, 2), 69, 31);
        due.both("berth 3 is beyond", x.built(2, 3), BerthAges.NONE, 31);
        due.both("one that is IN: 0 to 30, as the number is lesser", x.built(0, 0), 31, 0);
        due.both("one that is IN: the other number", x.built(1, 0), 20, 0);
        due.both("a raft is 90 whatever", x.built(3, 0), 100, 0);
        due.tells("BUILT stays", x.ship(2, 1), 90);
    }

    private static void tellsLeast(Due due) {
        due.harbour("h509 s20500 s30400 r00600 g00700 p10500");
        BerthAges x = due.x;
        x.come(0);
        due.is("at 0 already", x.least(0, 0), 0);
        due.is("20 to 30: a lesser captain, so one more", x.least(1, 0), 11);
        due.is("berth 1 is near enough", x.least(1, 1), 0);
        due.is("a prize of 20, a like captain, the greater number", x.least(4, 0), 11);
        x.come(1);
        due.is("nearer counts, too", x.least(0, 3), 0);
        x.tea(1);
        x.tea(1);
        x.tea(1);
        x.tea(1);
        due.is("she is ahead with 20 of TEA", x.least(1, 0), 0);
        due.is("behind 40 now", x.least(0, 0), 10);
        x.come(2);
        due.is("90 to pass, 40 and a lesser captain", x.least(1, 0), BerthAges.NONE);
        due.is("a ghost is 0 by any TEA", x.least(3, 0), BerthAges.NONE);
        due.is("a ghost behind all", x.least(3, 3), 0);
        due.tells("TEA stays", x.ship(1, 5), 20);
        due.harbour("h909 r00500 s40600 s40400 s39400");
        x = due.x;
        x.come(0);
        due.is("40 more", x.least(1, 0), 40);
        due.is("41 more would do", x.least(2, 0), BerthAges.NONE);
        due.is("40 more of 51", x.least(3, 0), 40);
    }

    private static void tellsWrong(Due due) {
        due.harbour("h509 s20000 s10000 s30000 s40000 s00000");
        BerthAges x = due.x;
        x.come(1);
        x.come(0);
        x.come(2);
        x.come(3);
        due.row(0);
        due.both("nothing told", x.wrong(0), 0, 0);
        due.row(0, 1, 0, 2, 3);
        due.both("all right", x.wrong(0), 0, 0);
        due.row(0, 3, 2, 0, 1);
        due.both("all wrong", x.wrong(0), 6, 15);
        due.row(0, 1, 2, 0, 3);
        due.both("one pair", x.wrong(0), 1, 5);
        due.row(0, 2, 1, 0);
        due.both("not all told", x.wrong(0), 2, 7);
        due.row(0, 1, 3);
        due.both("two told right", x.wrong(0), 0, 0);
        due.row(1, 4);
        due.finds("one outside", () -> x.wrong(1), UNLIKE);
        due.row(1, 5);
        due.finds("no SHIP", () -> x.wrong(1), UNLIKE);
        due.row(1, -1);
        due.finds("no SHIP below", () -> x.wrong(1), UNLIKE);
        due.row(1, 1, 0, 1);
        due.finds("told ahead", () -> x.wrong(1), UNLIKE);
        due.finds("no row", () -> x.wrong(2), NOTHING);
        due.is("wrong(6)", x.wrong(6), BerthAges.BAD);
    }

    private static void refuses(Due due) {
        due.anew();
        due.is("wrong(0): STATE is ahead of NOTHING", due.x.wrong(0), BerthAges.STATE);
        due.is("wrong(-1): BAD is ahead of STATE", due.x.wrong(-1), BerthAges.BAD);
        due.is("when(0, 0) without ships", due.x.when(0, 0), BerthAges.BAD);
        due.is("built(0, 0) without ships", due.x.built(0, 0), BerthAges.BAD);
        due.is("least(0, 0) without ships", due.x.least(0, 0), BerthAges.BAD);
        due.harbour("h509 s20000 s10000");
        int[][] bad = {{-1, 0}, {2, 0}, {0, -1}, {0, 6}, {Integer.MAX_VALUE, 0}, {0, Integer.MIN_VALUE}};
        for (int[] b : bad) {
            due.is("when " + b[0] + " " + b[1], due.x.when(b[0], b[1]), BerthAges.BAD);
            due.is("built " + b[0] + " " + b[1], due.x.built(b[0], b[1]), BerthAges.BAD);
            due.is("least " + b[0] + " " + b[1], due.x.least(b[0], b[1]), BerthAges.BAD);
        }
    }
}
