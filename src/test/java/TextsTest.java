/** Promises 8 to 11: texts, their faults, harbours. */
public final class TextsTest {
    private static final int NOTHING = 1, BEYOND = 2, SIZE = 5;

    public static void main(String[] args) {
        Due due = new Due("TextsTest");
        makesTexts(due);
        puts(due);
        faults(due);
        makesHarbours(due);
        due.end();
    }

    private static void makesTexts(Due due) {
        due.anew();
        BerthAges x = due.x;
        due.is("text(3, 60)", x.text(3, 60), 60);
        due.is("put(3, 59, 1): a blank was there", x.put(3, 59, 1), 1032);
        due.is("text(3, 60) anew", x.text(3, 60), 60);
        due.is("put(3, 59, 1): a blank again", x.put(3, 59, 1), 1032);
        due.is("text(0, 0)", x.text(0, 0), 0);
        due.is("text(0, 61)", x.text(0, 61), BerthAges.BAD);
        due.is("text(-1, 1)", x.text(-1, 1), BerthAges.BAD);
        due.is("text(4, 1)", x.text(4, 1), BerthAges.BAD);
        due.is("text(4, -1): BAD is first", x.text(4, -1), BerthAges.BAD);
        due.finds("text(0, -1)", () -> x.text(0, -1), SIZE);
        due.is("count(9)", x.count(9), 2);
    }

    private static void puts(Due due) {
        due.anew();
        BerthAges x = due.x;
        due.finds("put of none", () -> x.put(0, 0, 1), NOTHING);
        x.text(0, 2);
        due.is("put(0, 1, 300)", x.put(0, 1, 300), 1032);
        due.is("300 is cut to 44", x.put(0, 1, 127), 1044);
        due.is("127 stays", x.put(0, 1, 128), 1127);
        due.is("128 is cut to -128", x.put(0, 1, 255), 872);
        due.is("255 is cut to -1", x.put(0, 1, -129), 999);
        due.is("-129 is cut to 127", x.put(0, 1, Integer.MIN_VALUE), 1127);
        due.is("MIN is cut to 0", x.put(0, 1, 0), 1000);
        due.finds("put(0, 2, 1)", () -> x.put(0, 2, 1), BEYOND);
        due.finds("put(0, -1, 1)", () -> x.put(0, -1, 1), BEYOND);
        due.is("put(-1, 0, 1)", x.put(-1, 0, 1), BerthAges.BAD);
        due.is("put(4, 0, 1)", x.put(4, 0, 1), BerthAges.BAD);
        due.is("the other byte stays", x.put(0, 0, 0), 1032);
    }

    private static void faultOf(Due due, String signs, int want) {
        due.anew();
        due.write(1, signs);
        due.is("fault of '" + signs + "'", due.x.fault(1), want);
    }

    private static void faults(Due due) {
        due.anew();
        due.is("fault(-1)", due.x.fault(-1), BerthAges.BAD);
        due.is("fault(4)", due.x.fault(4), BerthAges.BAD);
        due.finds("fault of none", () -> due.x.fault(1), NOTHING);
        faultOf(due, "", 0);
        faultOf(due, "    ", 4);
        faultOf(due, "  h", 3);
        faultOf(due, "  H001", 2);
        faultOf(due, "s00000", 0);
        faultOf(due, " b12345 s00000", 1);
        faultOf(due, "001s00000", 0);
        faultOf(due, "h001", 4);
        faultOf(due, " ".repeat(50) + "h001s00000", BerthAges.NONE);
        faultOf(due, "h001" + " ".repeat(50) + "s00000", BerthAges.NONE);
        faultOf(due, "h001s00000" + " ".repeat(50), BerthAges.NONE);
        faultOf(due, " ".repeat(60), 60);
        faultOf(due, "h001   ", 7);
        faultOf(due, "h000s00000", 3);
        faultOf(due, "h0 1s00000", 2);
        faultOf(due, "hs", 1);
        faultOf(due, "h00s", 3);
        faultOf(due, "h001h", 4);
        faultOf(due, "h0012", 4);
        faultOf(due, "h001S00000", 4);
        faultOf(due, "h001 s0000", 10);
        faultOf(due, "h001 s0000 ", 10);
        faultOf(due, "h001s0:000", 6);
        faultOf(due, "h001s0/000", 6);
        faultOf(due, "h001s00000,b00000", 10);
        faultOf(due, "h001s000000", 10);
        faultOf(due, "h001s00000", BerthAges.NONE);
        faultOf(due, " h999s99999b00000p12345r67890f10101g20202", BerthAges.NONE);
        faultOf(due, "h999 s99999   b00000  p12345 r67890 f10101 g20202   ", BerthAges.NONE);
        faultOf(due, "h999 s99999 b00000 p12345 r67890 f10101 g20202 s00000", 47);
        faultOf(due, "h999 s99999 b00000 p12345 r67890 f10101 g20202 x", 47);
        for (char c = 0; c < 256; c++) {
            boolean isLetter = "sbprfg".indexOf(c) >= 0;
            faultOf(due, "h001" + c + "00000", isLetter ? BerthAges.NONE : c == ' ' ? 5 : 4);
        }
    }

    private static void makesHarbours(Due due) {
        due.anew();
        BerthAges x = due.x;
        due.is("harbour(-1)", x.harbour(-1), BerthAges.BAD);
        due.is("harbour(4)", x.harbour(4), BerthAges.BAD);
        due.finds("harbour of none", () -> x.harbour(2), NOTHING);
        due.write(0, "h427 s10345 f20678");
        due.write(1, "h427 s10345 f2067");
        due.write(2, "h993 g00009");
        due.is("harbour of a fault", x.harbour(1), BerthAges.STATE);
        due.is("no ships by a refused one", x.count(0), 0);
        due.is("harbour(0)", x.harbour(0), 2);
        x.come(0);
        x.tea(1);
        x.tide();
        x.year();
        x.keep(1);
        long before = x.digest();
        due.is("harbour of a fault again", x.harbour(1), BerthAges.STATE);
        due.is("a refused one changes nothing", x.digest(), before);
        due.is("harbour(0) anew", x.harbour(0), 2);
        int[] counts = {2, 42, 0, 7, 0, 0, 0, 1, 0, 3, 0};
        for (int what = 0; what < counts.length; what++) {
            due.is("anew count(" + what + ")", x.count(what), counts[what]);
        }
        due.tells("anew TEA", x.ship(1, 5), 0);
        due.tells("anew AGROUND", x.ship(0, 8), 0);
        due.finds("kept harbours go", () -> x.on(1), NOTHING);
        x.harbour(2);
        x.pay(0);
        due.is("PAID", x.mark(0, 5), 1);
        due.is("harbour(2)", x.harbour(2), 1);
        due.is("anew nothing PAID", x.mark(0, 5), 0);
        x.text(2, 0);
        due.is("the harbour stays when its text goes", x.count(0), 1);
    }
}
