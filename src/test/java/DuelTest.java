/** Promise 35: by turns of two owners. */
public final class DuelTest {
    public static void main(String[] args) {
        Due due = new Due("DuelTest");
        due.anew();
        due.is("duel(0) without ships", due.x.duel(0), BerthAges.STATE);
        due.is("duel(6): BAD is ahead of STATE", due.x.duel(6), BerthAges.BAD);
        due.is("duel(-1)", due.x.duel(-1), BerthAges.BAD);
        playsTwoShips(due);
        playsManyShips(due);
        due.end();
    }

    private static void playsTwoShips(Due due) {
        // The even ship is older: with both IN the odd one lies at 1, which the first owner wants.
        due.harbour("h501 s10000 s20000");
        BerthAges x = due.x;
        for (int n = 0; n <= 5; n++) {
            due.is("nobody IN, the odd one stays outside: duel(" + n + ")", x.duel(n), 100);
        }
        x.come(1);
        due.is("no turn", x.duel(0), 100);
        due.is("the even one comes in", x.duel(1), 101);
        due.is("the odd one goes out then", x.duel(2), 100);
        due.is("nothing better for the first", x.duel(3), 100);
        due.is("nobody came in by asking", x.count(4), 2);
        due.is("no hours LEFT are aside", x.count(3), 0);
        // The even ship is younger: with both IN it lies at 1, which the second owner wants.
        due.harbour("h509 s20000 s10000");
        x = due.x;
        x.come(0);
        x.come(1);
        due.is("no turn: the even one is at 1", x.duel(0), 99);
        due.is("the even one goes out", x.duel(1), 100);
        due.is("two turns", x.duel(2), 100);
        due.harbour("h509 s20000");
        due.x.come(0);
        due.is("the second owner has none", due.x.duel(5), 100);
    }

    private static void playsManyShips(Due due) {
        // From the inn on: 0, 2, 1, 3. Odd ones IN are at 2 and 3: 5 less 1.
        due.harbour("h509 s10000 s30000 s20000 s40000");
        BerthAges x = due.x;
        x.come(0);
        x.come(2);
        x.come(1);
        x.come(3);
        due.is("no turn: 2 + 3 less 0 + 1", x.duel(0), 104);
        due.is("the first one's best is nothing", x.duel(1), 104);
        // Then the odd one at 3 goes out (2 less 1), or that at 2 (2 less 1).
        due.is("the second one's best", x.duel(2), 101);
        due.is("the first one has a turn more", x.duel(3), 101);
        // Were it nothing, both odd ones would go out, and the even ones lie at 0 and 1: 1 goes out ahead.
        due.is("the second one has the last turn", x.duel(4), 100);
    }
}
