/** Promises 36 to 38, 40 and 41: chances, means, lots. */
public final class ChancesTest {
    public static void main(String[] args) {
        Due due = new Due("ChancesTest");
        tellsOdds(due);
        tellsMeans(due);
        drawsLots(due);
        refuses(due);
        due.end();
    }

    private static void told(Due due, String call, int got, long upper, long lower) {
        due.is(call, got, 1);
        due.is(call + " upper()", due.x.upper(), upper);
        due.is(call + " lower()", due.x.lower(), lower);
    }

    private static void tellsOdds(Due due) {
        due.harbour("h509 s10000 s20000 s30000 s00000");
        BerthAges x = due.x;
        due.is("upper() before", x.upper(), 0);
        due.is("lower() before", x.lower(), 1);
        told(due, "nobody IN", x.odds(2, 0, 0), 1, 1);
        x.come(0);
        x.come(1);
        x.come(2);
        told(due, "both ahead sink by 1 of 12", x.odds(2, 0, 1), 1, 144);
        told(due, "one of them at least sinks", x.odds(2, 1, 1), 23, 144);
        told(due, "berth 2 or nearer", x.odds(2, 2, 1), 1, 1);
        told(due, "berth 5 or nearer", x.odds(2, 5, 1), 1, 1);
        told(due, "by 6 of 12", x.odds(2, 0, 6), 1, 4);
        told(due, "none sinks", x.odds(2, 1, 0), 0, 1);
        told(due, "all sink", x.odds(2, 0, 12), 1, 1);
        told(due, "of the younger ones none counts", x.odds(0, 0, 0), 1, 1);
        told(due, "one ahead, 9 of 12", x.odds(1, 0, 9), 3, 4);
        told(due, "one outside, the oldest", x.odds(3, 0, 3), 1, 1);
        due.is("nobody sank by asking", x.count(4), 7);
        due.harbour("h509 s00000 s10000 s20000 s30000 s40000 s50000");
        x = due.x;
        for (int i = 0; i < 5; i++) {
            x.come(i);
        }
        told(due, "five ahead, 5 of 12 each", x.odds(5, 0, 5), 3125, 248832);
        told(due, "at most one of five stays", x.odds(5, 1, 5), (3125 + 5 * 7 * 625) / 8, 248832 / 8);
        told(due, "one of five at least sinks", x.odds(5, 4, 5), 248832 - 16807, 248832);
    }

    private static void tellsMeans(Due due) {
        due.harbour("h509 s10000 s20000 s30000 s00000");
        BerthAges x = due.x;
        told(due, "nobody IN", x.mid(0, 5), 0, 1);
        x.come(0);
        x.come(1);
        told(due, "two ahead, 1 of 12", x.mid(2, 1), 11, 6);
        told(due, "two ahead, 6 of 12", x.mid(2, 6), 1, 1);
        told(due, "two ahead, none sinks", x.mid(2, 0), 2, 1);
        told(due, "two ahead, all sink", x.mid(2, 12), 0, 1);
        told(due, "one ahead, 4 of 12", x.mid(1, 4), 2, 3);
        told(due, "the oldest, outside", x.mid(3, 4), 0, 1);
    }

    private static void drawsLots(Due due) {
        due.harbour("h502 s10000 s20000 s30009");
        BerthAges x = due.x;
        // From seed 1: 48271 by 8 is 6033, of 3 ships 0; then 182605794 by 8 is 22825724, ship 2.
        due.is("lots(1, 1): ship 0 comes", x.lots(1, 1), 1);
        due.is("a DEED", x.count(2), 1);
        due.is("hours LEFT", x.count(3), 1);
        x.undo(0);
        due.is("lots(2, 1): ship 2 comes", x.lots(2, 1), 5);
        due.is("hours LEFT 0", x.count(3), 0);
        due.is("a lot without hours: a TIDE", x.lots(1, 1), 5);
        due.is("AGROUND", x.count(6), 1);
        due.is("hours LEFT 2", x.count(3), 2);
        due.is("ship 0 goes out, 1 is SHIFTED", x.lots(1, 1), 4);
        due.is("SHIFTED", x.count(5), 1);
        due.is("DEEDS", x.count(2), 4);
        due.is("the greatest seed: -48271, 2147435376 by 8 is 268429422, ship 0", x.lots(1, 2147483646), 4);
        due.is("lots that fill", x.lots(20, 77) >= 0 ? 1 : 0, 1);
        due.is("DEEDS 25", x.count(2), 25);
        due.is("16 more are too many", x.lots(16, 1), BerthAges.FULL);
        due.is("15 more are not", x.lots(15, 1) >= 0 ? 1 : 0, 1);
        due.is("DEEDS 40", x.count(2), 40);
        due.is("one more is", x.lots(1, 1), BerthAges.FULL);
        due.is("BAD is ahead of FULL", x.lots(0, 1), BerthAges.BAD);
    }

    private static void refuses(Due due) {
        due.anew();
        due.is("odds without ships", due.x.odds(0, 0, 0), BerthAges.BAD);
        due.is("mid without ships", due.x.mid(0, 0), BerthAges.BAD);
        due.is("lots without ships", due.x.lots(1, 1), BerthAges.STATE);
        due.is("lots: BAD is ahead of STATE", due.x.lots(1, 0), BerthAges.BAD);
        due.harbour("h509 s10000 s20000");
        BerthAges x = due.x;
        x.come(0);
        x.odds(1, 0, 5);
        int[][] bad = {{-1, 0, 0}, {2, 0, 0}, {0, -1, 0}, {0, 6, 0}, {0, 0, -1}, {0, 0, 13}};
        for (int[] b : bad) {
            due.is("odds " + java.util.Arrays.toString(b), x.odds(b[0], b[1], b[2]), BerthAges.BAD);
            if (b[1] == 0) {
                due.is("mid " + java.util.Arrays.toString(b), x.mid(b[0], b[2]), BerthAges.BAD);
            }
        }
        int[][] badLots = {{0, 1}, {21, 1}, {-1, 1}, {1, 0}, {1, -1}, {1, Integer.MIN_VALUE}, {1, Integer.MAX_VALUE}};
        for (int[] b : badLots) {
            due.is("lots " + java.util.Arrays.toString(b), x.lots(b[0], b[1]), BerthAges.BAD);
        }
        due.is("upper() behind refusals", x.upper(), 5);
        due.is("lower() behind refusals", x.lower(), 12);
    }
}
