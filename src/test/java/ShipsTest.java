/** Promises 12 to 14: ships, their marks, their ages. */
public final class ShipsTest {
    private static final int UNLIKE = 3;

    public static void main(String[] args) {
        Due due = new Due("ShipsTest");
        tellsShips(due);
        ages(due);
        marks(due);
        marksOfForged(due);
        due.end();
    }

    private static void tellsShips(Due due) {
        due.harbour("h509 s20130 b30246 p40378 r01409 f15568 g49679");
        BerthAges x = due.x;
        int[][] facts = {
            {0, 20, 1, 3, 0, 0, 30, -9, 0}, {1, 30, 2, 4, 6, 0, 40, -9, 0}, {2, 40, 3, 7, 8, 0, 5, -9, 0},
            {3, 1, 4, 0, 9, 0, 90, -9, 0}, {4, 15, 5, 6, 8, 0, 60, -9, 0}, {5, 49, 6, 7, 9, 0, 0, -9, 0}};
        for (int i = 0; i < 6; i++) {
            for (int what = 0; what < 9; what++) {
                due.tells("ship(" + i + ", " + what + ")", x.ship(i, what), facts[i][what]);
            }
        }
        x.come(1);
        x.come(4);
        x.tea(1);
        x.tide();
        x.tide();
        due.tells("TEA", x.ship(1, 5), 5);
        due.tells("AGE with TEA", x.ship(1, 6), 45);
        due.tells("BERTH of the older", x.ship(4, 7), 0);
        due.tells("BERTH of the younger", x.ship(1, 7), 1);
        due.tells("AGROUND twice", x.ship(4, 8), 2);
        for (int i : new int[] {-1, 6, Integer.MAX_VALUE}) {
            due.is("ship(" + i + ", 0)", x.ship(i, 0), BerthAges.BAD);
        }
        due.is("ship(0, 9)", x.ship(0, 9), BerthAges.BAD);
        due.is("ship(0, -1)", x.ship(0, -1), BerthAges.BAD);
        due.is("asked() behind refusals", x.asked(), 2);
        due.anew();
        due.is("ship(0, 0) without ships", due.x.ship(0, 0), BerthAges.BAD);
    }

    private static void ages(Due due) {
        due.harbour("h509 s20000 b20000 p21000 r20000 f20000 g20000");
        BerthAges x = due.x;
        // Years: ahead of BUILT, the year of it, one behind, odd halves, about the raft's 90.
        int[] years = {0, 19, 20, 21, 50, 51, 109, 110, 111, 999};
        int[][] due6 = {
            {0, 0, 0, 1, 30, 31, 89, 90, 91, 979},
            {20, 20, 20, 21, 50, 51, 109, 110, 111, 999},
            {0, 0, 0, 0, 14, 15, 44, 44, 45, 489},
            {90, 90, 90, 90, 90, 90, 90, 90, 91, 979},
            {25, 25, 25, 26, 55, 56, 114, 115, 116, 1004},
            {0, 0, 0, 0, 0, 0, 0, 0, 0, 0}};
        for (int i = 0; i < 6; i++) {
            for (int y = 0; y < years.length; y++) {
                due.is("age(" + i + ", " + years[y] + ")", x.age(i, years[y]), due6[i][y]);
            }
        }
        x.pay(5);
        for (int i = 0; i < 6; i++) {
            x.tea(i);
            x.tea(i);
        }
        int[] with = {41, 61, 25, 90, 66, 90};
        int[] later = {101, 121, 55, 101, 126, 101};
        for (int i = 0; i < 6; i++) {
            due.is("with TEA age(" + i + ", 51)", x.age(i, 51), with[i]);
            due.is("with TEA age(" + i + ", 111)", x.age(i, 111), later[i]);
        }
        due.is("age(0, -1)", x.age(0, -1), BerthAges.BAD);
        due.is("age(0, 1000)", x.age(0, 1000), BerthAges.BAD);
        due.is("age(6, 0)", x.age(6, 0), BerthAges.BAD);
        due.is("age(-1, 0)", x.age(-1, 0), BerthAges.BAD);
    }

    private static void marks(Due due) {
        due.harbour("h509 s20000 b30000 p21000 r20000 f20000 g20000");
        BerthAges x = due.x;
        int[][] kindsOf = {{}, {1}, {2}, {3}, {1, 4}, {3, 5}};
        for (int i = 0; i < 6; i++) {
            for (int kind = 1; kind < 6; kind++) {
                boolean is = false;
                for (int k : kindsOf[i]) {
                    is |= k == kind;
                }
                if (!is) {
                    int one = i;
                    int other = kind;
                    due.finds("mark(" + i + ", " + kind + ")", () -> x.mark(one, other), UNLIKE);
                }
            }
        }
        due.is("mark of a bell", x.mark(1, 1), 20);
        due.is("mark of a forged one as a bell", x.mark(4, 1), 25);
        due.is("mark of a prize, 29 years", x.mark(2, 2), 15);
        due.is("mark of a raft", x.mark(3, 3), 0);
        due.is("mark of a ghost as a raft", x.mark(5, 3), 5);
        due.is("mark of a ghost", x.mark(5, 5), 0);
        x.pay(5);
        due.is("mark of a ghost that has PAID", x.mark(5, 5), 1);
        due.is("mark of it as a raft: the raft is of the lesser number", x.mark(5, 3), 1);
        x.tea(1);
        x.tea(2);
        due.is("TEA is aside for a bell", x.mark(1, 1), 20);
        due.is("TEA is aside for a prize", x.mark(2, 2), 15);
        due.is("mark(0, 0)", x.mark(0, 0), BerthAges.BAD);
        due.is("mark(0, 6)", x.mark(0, 6), BerthAges.BAD);
        due.is("mark(0, -1)", x.mark(0, -1), BerthAges.BAD);
        due.is("mark(6, 1)", x.mark(6, 1), BerthAges.BAD);
        due.is("mark(-1, 1)", x.mark(-1, 1), BerthAges.BAD);
    }

    private static void marksOfForged(Due due) {
        // The forged one is 35 old, as a bell 30: the ships are 35 (lesser captain), 33, 30 (greater captain),
        // 30 (greater rat), 30 (like, of a greater number).
        due.harbour("h509 f40550 s15450 s17000 s20600 s20560 s20550");
        due.is("mark of a forged one", due.x.mark(0, 4), 4);
        due.is("a ship of a lesser number at like ages", due.x.mark(0, 1), 25);
        due.harbour("h509 s20550 f40550");
        due.is("like, but of the lesser number", due.x.mark(1, 4), 1);
        due.harbour("h509 s15550 f40550");
        due.is("ahead of her anyway", due.x.mark(1, 4), 0);
    }
}
