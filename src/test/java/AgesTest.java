/** Terms 1, promises 12 to 14 at their edges: OLD, AGE by KIND, who is AHEAD, marks. */
public final class AgesTest {
    // In the order of the kinds: a ship, bell, prize, raft, forged one, ghost, all built in 50, all alike else.
    private static final String KINDS = "s50000 b50000 p50000 r50000 f50000 g50000";
    private static final int SHIP = 0, BELL = 1, PRIZE = 2, RAFT = 3, FORGED = 4, GHOST = 5;

    private final Due due = new Due("AgesTest");

    public static void main(String[] args) {
        AgesTest test = new AgesTest();
        test.oldIsNoughtAtLeast();
        test.agesByOld();
        test.agesByTea();
        test.ageIsOfTheYearAsked();
        test.ghostsUntilTheyPay();
        test.aheadByAge();
        test.aheadByCaptain();
        test.aheadByRat();
        test.aheadByNumber();
        test.factsAtTheirEnds();
        test.marksOfBells();
        test.marksOfPrizes();
        test.marksOfRafts();
        test.marksOfForged();
        test.marksOfGhosts();
        test.due.end();
    }

    /** All kinds' ages in a year: by age(), and, if it is the year of the harbour, by ship(), too. */
    private void agesIn(String name, int year, int... ages) {
        for (int kind = 0; kind < 6; kind++) {
            due.is(name + ": age(" + kind + ", " + year + ")", due.x.age(kind, year), ages[kind]);
            if (due.x.count(1) == year) {
                due.tells(name + ": ship(" + kind + ", 6)", due.x.ship(kind, 6), ages[kind]);
            }
        }
    }

    private void teaForAll(int cups) {
        for (int kind = 0; kind < 6; kind++) {
            for (int cup = 0; cup < cups; cup++) {
                due.x.tea(kind);
            }
        }
    }

    private void oldIsNoughtAtLeast() {
        due.harbour("h009 " + KINDS);
        agesIn("50 years ahead of BUILT", 0, 0, 20, 0, 90, 25, 0);
        due.harbour("h499 " + KINDS);
        agesIn("a year ahead of BUILT", 49, 0, 20, 0, 90, 25, 0);
        due.harbour("h509 " + KINDS);
        agesIn("in the year of BUILT", 50, 0, 20, 0, 90, 25, 0);
        due.x.year();
        agesIn("a year past BUILT", 51, 1, 21, 0, 90, 26, 0);
        due.harbour("h009 s99000 s00000");
        due.tells("BUILT in 99, in the YEAR 0", due.x.ship(0, 6), 0);
        due.tells("BUILT in 0, in the YEAR 0", due.x.ship(1, 6), 0);
        due.is("BUILT in 99, in 999", due.x.age(0, 999), 900);
        due.is("BUILT in 0, in 999", due.x.age(1, 999), 999);
    }

    private void agesByOld() {
        due.harbour("h509 " + KINDS);
        due.x.pay(GHOST);
        agesIn("OLD 1: half is cut", 51, 1, 21, 0, 90, 26, 90);
        agesIn("OLD 2", 52, 2, 22, 1, 90, 27, 90);
        agesIn("OLD 3: half is cut", 53, 3, 23, 1, 90, 28, 90);
        agesIn("OLD 89: less than 90", 139, 89, 109, 44, 90, 114, 90);
        agesIn("OLD 90: not less", 140, 90, 110, 45, 90, 115, 90);
        agesIn("OLD 91: not less", 141, 91, 111, 45, 91, 116, 91);
        agesIn("OLD 949, the last", 999, 949, 969, 474, 949, 974, 949);
    }

    private void agesByTea() {
        due.harbour("h509 " + KINDS);
        due.x.pay(GHOST);
        teaForAll(1);
        agesIn("OLD 0, TEA 5", 50, 5, 25, 5, 90, 30, 90);
        agesIn("OLD 1: TEA is not halved", 51, 6, 26, 5, 90, 31, 90);
        teaForAll(3);
        agesIn("OLD 0, TEA 20", 50, 20, 40, 20, 90, 45, 90);
        agesIn("OLD 69 and TEA 20 are less than 90", 119, 89, 109, 54, 90, 114, 90);
        agesIn("OLD 70 and TEA 20 are not", 120, 90, 110, 55, 90, 115, 90);
        agesIn("OLD 71 and TEA 20 are not", 121, 91, 111, 55, 91, 116, 91);
        due.is("a fifth cup", due.x.tea(SHIP), BerthAges.STATE);
        agesIn("TEA is 20 at most", 50, 20, 40, 20, 90, 45, 90);
    }

    private void ageIsOfTheYearAsked() {
        due.harbour("h999 " + KINDS);
        agesIn("the YEAR aside", 0, 0, 20, 0, 90, 25, 0);
        agesIn("the YEAR itself", 99, 49, 69, 24, 90, 74, 0);
        due.is("the YEAR stays", due.x.count(1), 99);
        for (int d = 0; d < 40; d++) {
            due.x.year();
        }
        agesIn("the last YEAR that DEEDS reach", 139, 89, 109, 44, 90, 114, 0);
    }

    private void ghostsUntilTheyPay() {
        due.harbour("h509 " + KINDS);
        teaForAll(4);
        due.is("TEA does not count for one who has not PAID", due.x.age(GHOST, 999), 0);
        due.is("she PAYS: 90", due.x.pay(GHOST), 90);
        due.is("then OLD and TEA count", due.x.age(GHOST, 999), 969);
        due.x.undo(24);
        due.is("undone, she has not PAID", due.x.age(GHOST, 999), 0);
        due.harbour("h999 g00000");
        for (int d = 0; d < 36; d++) {
            due.x.year();
        }
        for (int cup = 0; cup < 3; cup++) {
            due.is("TEA of one who has not PAID", due.x.tea(0), 0);
        }
        due.is("OLD 135 and TEA 15 when she PAYS", due.x.pay(0), 150);
    }

    /** One is ahead of the other, whichever has the lesser number. */
    private void ahead(String name, String one, String other) {
        for (boolean swapped : new boolean[] {false, true}) {
            due.harbour("h509 " + (swapped ? other + " " + one : one + " " + other));
            due.x.come(0);
            boolean zeroAhead = !swapped;
            due.is(name + ": SHIFTED as 1 comes to 0", due.x.come(1), zeroAhead ? 0 : 1);
            due.tells(name + ": BERTH of 0", due.x.ship(0, 7), zeroAhead ? 0 : 1);
            due.tells(name + ": BERTH of 1", due.x.ship(1, 7), zeroAhead ? 1 : 0);
        }
    }

    private void aheadByAge() {
        ahead("a year older, CAPTAIN and RAT the least", "s20009", "s21999");
        ahead("a BELL by 20", "b39000", "s20999");
        ahead("a PRIZE, half of 50", "p00000", "s26999");
        ahead("a RAFT", "r50000", "s00999");
        ahead("a FORGED one by 5", "f44000", "b40999");
        ahead("a GHOST behind one of a year", "s49000", "g00999");
    }

    private void aheadByCaptain() {
        ahead("of like AGE the greater CAPTAIN", "s20100", "s20099");
        ahead("9 to 8", "s20900", "s20899");
        ahead("of like AGE, not like KIND", "b40100", "s20099");
        ahead("a GHOST and one BUILT now", "g00100", "s50099");
        ahead("two that are not OLD", "s51100", "s99099");
    }

    private void aheadByRat() {
        ahead("of like AGE and CAPTAIN the greater RAT", "s20510", "s20509");
        ahead("9 to 8", "s20590", "s20589");
        ahead("of another KIND", "s20510", "f45509");
    }

    private void aheadByNumber() {
        for (String both : new String[] {"s20555", "g00999", "r00000"}) {
            due.harbour("h509 " + both + " " + both);
            due.x.come(1);
            due.is("of two alike the lesser number SHIFTS", due.x.come(0), 1);
            due.tells("BERTH of 0", due.x.ship(0, 7), 0);
            due.tells("BERTH of 1", due.x.ship(1, 7), 1);
        }
        for (String both : new String[] {"s20550 s20559", "s20559 s20550"}) {
            due.harbour("h509 " + both);
            due.x.come(1);
            due.is("the DRAUGHT is aside", due.x.come(0), 1);
        }
        due.harbour("h509" + " s20555".repeat(6));
        for (int i = 5; i >= 0; i--) {
            due.is("six alike: SHIFTED by " + i, due.x.come(i), 5 - i);
            due.x.tide();
        }
        for (int i = 0; i < 6; i++) {
            due.tells("six alike: BERTH of " + i, due.x.ship(i, 7), i);
        }
    }

    private void factsAtTheirEnds() {
        due.harbour("h999 s00000 s99999");
        int[][] facts = {{0, 0, 0, 0, 0, 0, 99, -9, 0}, {0, 99, 9, 9, 9, 0, 0, -9, 0}};
        for (int i = 0; i < 2; i++) {
            for (int what = 0; what <= 8; what++) {
                due.tells("ship(" + i + ", " + what + ")", due.x.ship(i, what), facts[i][what]);
            }
        }
        due.x.come(0);
        due.x.come(1);
        due.tells("BERTH 0", due.x.ship(0, 7), 0);
        due.tells("BERTH 1", due.x.ship(1, 7), 1);
        due.x.leave(1);
        due.tells("NONE when she is outside again", due.x.ship(1, 7), BerthAges.NONE);
        due.tells("the other one stays", due.x.ship(0, 7), 0);
    }

    private void marksOfBells() {
        for (String built : new String[] {"00", "49", "50", "51", "99"}) {
            due.harbour("h509 b" + built + "000 f" + built + "000");
            due.is("a BELL BUILT in " + built, due.x.mark(0, BELL), 20);
            due.is("a FORGED one BUILT in " + built, due.x.mark(1, BELL), 25);
            for (int cup = 0; cup < 4; cup++) {
                due.x.tea(0);
                due.x.tea(1);
            }
            due.is("a BELL with TEA", due.x.mark(0, BELL), 20);
            due.is("a FORGED one with TEA", due.x.mark(1, BELL), 25);
        }
    }

    private void marksOfPrizes() {
        // By OLD: what is left of it, as half is cut.
        int[][] due2 = {{50, 0}, {51, 0}, {49, 1}, {48, 1}, {47, 2}, {0, 25}, {99, 0}};
        for (int[] d : due2) {
            due.harbour("h509 p" + d[0] / 10 + d[0] % 10 + "000");
            due.is("a PRIZE BUILT in " + d[0], due.x.mark(0, PRIZE), d[1]);
            due.x.tea(0);
            due.is("with TEA", due.x.mark(0, PRIZE), d[1]);
        }
    }

    private void marksOfRafts() {
        due.harbour("h999 r99000");
        due.is("a RAFT alone", due.x.mark(0, RAFT), 0);
        due.harbour("h999 r99000 s09999 s10999 s08000 s09000 s99999");
        // Ages: 90, 90 (a greater CAPTAIN), 89, 91, 90 (alike, a greater number), 0.
        due.is("a RAFT: 90 by the CAPTAIN, 91", due.x.mark(0, RAFT), 2);
        due.x.come(1);
        due.is("IN or not", due.x.mark(0, RAFT), 2);
        due.harbour("h999 s08000 s08000 s08000 s08000 s08000 r99999");
        due.is("five are AHEAD", due.x.mark(5, RAFT), 5);
        due.harbour("h999 s09000 r99000");
        due.is("one alike of a lesser number", due.x.mark(1, RAFT), 1);
        due.harbour("h999 g00999 g00000 s99000");
        due.is("a GHOST as a RAFT: none is AHEAD", due.x.mark(0, RAFT), 0);
        due.is("a GHOST as a RAFT: one of a greater CAPTAIN, none of a greater number", due.x.mark(1, RAFT), 1);
        due.x.pay(1);
        due.is("she has PAID", due.x.mark(1, RAFT), 0);
        due.is("the other one then", due.x.mark(0, RAFT), 1);
    }

    private void marksOfForged() {
        // The forged one is 45 by 5 and 20 more; as a bell 40.
        String forged = "f30500";
        String[] others = {"s04900", "s05600", "s05400", "s06900", "s09900", "s10600", "s10500", "s10400", "s11900"};
        // 46: ahead of her anyway; 45 by a greater captain, too; 45 of a lesser one: not any more; so 44 and 41;
        // 40: only by a greater captain, or alike by a lesser number; 39: she stays ahead.
        int[] whenBehind = {0, 0, 1, 1, 1, 1, 0, 0, 0};
        int[] whenFirst = {0, 0, 1, 1, 1, 1, 1, 0, 0};
        for (int o = 0; o < others.length; o++) {
            due.harbour("h509 " + forged + " " + others[o]);
            due.is("FORGED, then " + others[o], due.x.mark(0, FORGED), whenBehind[o]);
            due.harbour("h509 " + others[o] + " " + forged);
            due.is("FORGED behind " + others[o], due.x.mark(1, FORGED), whenFirst[o]);
        }
        due.harbour("h509 " + forged);
        due.is("FORGED alone", due.x.mark(0, FORGED), 0);
        due.harbour("h509 " + forged + " s06900".repeat(5));
        due.is("FORGED: of all five", due.x.mark(0, FORGED), 5);
        due.x.come(1);
        due.is("IN or not", due.x.mark(0, FORGED), 5);
        due.is("she is no BELL by asking", due.x.hours(0), 2);
    }

    private void marksOfGhosts() {
        due.harbour("h509 g50000 g50000");
        due.is("not PAID", due.x.mark(0, GHOST), 0);
        due.x.pay(0);
        due.is("PAID", due.x.mark(0, GHOST), 1);
        due.is("the other one has not", due.x.mark(1, GHOST), 0);
        due.x.undo(0);
        due.is("undone", due.x.mark(0, GHOST), 0);
    }
}
