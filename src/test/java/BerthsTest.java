/** Promises 24 to 26: who lies where, hours, who would be aground. */
public final class BerthsTest {
    public static void main(String[] args) {
        Due due = new Due("BerthsTest");
        tellsBerths(due);
        tellsHours(due);
        tellsGround(due);
        due.end();
    }

    private static void tellsBerths(Due due) {
        due.anew();
        due.is("berths(0) without ships", due.x.berths(0), BerthAges.STATE);
        due.is("berths(6): BAD is ahead of STATE", due.x.berths(6), BerthAges.BAD);
        due.harbour("h509 s20000 g10000 s10000 p00000 r40000");
        BerthAges x = due.x;
        due.row(5, 1, 2, 3);
        due.is("berths(5), nobody IN", x.berths(5), 0);
        due.rowIs("berths(5)", 5);
        x.come(1);
        x.come(3);
        x.come(0);
        due.is("berths(4)", x.berths(4), 3);
        due.rowIs("berths(4): 30 years, 25, a ghost", 4, 0, 3, 1);
        due.tells("BERTH of 3", x.ship(3, 7), 1);
        due.is("hours LEFT 4", x.count(3), 3);
        x.tea(3);
        x.tea(3);
        x.pay(1);
        due.is("berths(4) anew", x.berths(4), 3);
        due.rowIs("papers move ships without hours", 4, 1, 3, 0);
        due.is("hours LEFT stay", x.count(3), 3);
        due.is("SHIFTED stay", x.count(5), 3);
        due.is("berths(-1)", x.berths(-1), BerthAges.BAD);
    }

    private static void tellsHours(Due due) {
        due.harbour("h503 s20000 s10000 s30000 s20100");
        BerthAges x = due.x;
        for (int i = 0; i < 4; i++) {
            due.is("nobody IN hours(" + i + ")", x.hours(i), 1);
        }
        x.come(0);
        x.come(2);
        due.is("going out, one younger", x.hours(0), 2);
        due.is("going out, none younger", x.hours(2), 1);
        due.is("coming, two younger: more than are LEFT", x.hours(1), 3);
        due.is("coming, a like one with a lesser captain", x.hours(3), 3);
        due.is("hours(4)", x.hours(4), BerthAges.BAD);
        due.is("hours(-1)", x.hours(-1), BerthAges.BAD);
        due.anew();
        due.is("hours(0) without ships", due.x.hours(0), BerthAges.BAD);
    }

    private static void tellsGround(Due due) {
        due.anew();
        due.is("ground() without ships", due.x.ground(), BerthAges.STATE);
        due.harbour("h509 s10009 s20003 s30006 s40005 s00009");
        BerthAges x = due.x;
        due.both("nobody IN", x.ground(), 0, 0);
        x.come(0);
        x.come(1);
        x.come(2);
        x.come(3);
        due.both("9 in 2, 3 in 3, 6 in 4, 5 in 5", x.ground(), 1 | 4, 7 + 2);
        due.is("nobody is AGROUND by asking", x.count(6), 0);
        due.is("tide() tells the same", x.tide(), 1 | 4);
        x.leave(0);
        due.both("3 in 2, 6 in 3, 5 in 4", x.ground(), 2 | 4 | 8, 1 + 3 + 1);
    }
}
