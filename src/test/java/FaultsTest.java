/** Terms 1, promises 10 and 11: the language of a harbour, place by place and byte by byte, and its FAULT. */
public final class FaultsTest {
    private static final int NONE = BerthAges.NONE;
    private static final String LETTERS = "sbprfg";
    private static final String SIX = "s12345b12345p12345r12345f12345g12345";

    private final Due due = new Due("FaultsTest");

    public static void main(String[] args) {
        FaultsTest test = new FaultsTest();
        test.everyByteAtEveryPlace();
        test.everyEnd();
        test.blanks();
        test.brokenItems();
        test.seventhShip();
        test.fullTexts();
        test.figures();
        test.letters();
        test.cutBytes();
        test.due.end();
    }

    /** The fault of a text, and what harbour() answers by it. */
    private void fault(String name, String signs, int place) {
        due.anew();
        due.write(1, signs);
        due.is(name + " '" + signs + "': fault", due.x.fault(1), place);
        if (place != NONE) {
            due.is(name + " '" + signs + "': harbour", due.x.harbour(1), BerthAges.STATE);
            due.is(name + " '" + signs + "': no SHIPS", due.x.count(0), 0);
        }
    }

    private void sound(String name, String signs, int ships) {
        fault(name, signs, NONE);
        due.is(name + " '" + signs + "': harbour", due.x.harbour(1), ships);
        due.is(name + " '" + signs + "': SHIPS", due.x.count(0), ships);
    }

    /** What may stand at the places of "h509s20534": a figure, one above 0, the h, a letter. */
    private static boolean fits(char c, int place) {
        switch (place) {
            case 0: return c == 'h';
            case 3: return c >= '1' && c <= '9';
            case 4: return LETTERS.indexOf(c) >= 0;
            default: return c >= '0' && c <= '9';
        }
    }

    private void everyByteAtEveryPlace() {
        String signs = "h509s20534";
        for (int place = 0; place < signs.length(); place++) {
            for (char c = 0; c < 256; c++) {
                String changed = signs.substring(0, place) + c + signs.substring(place + 1);
                // A blank ahead of an item is fine: what stands behind it is none.
                boolean blankAhead = c == ' ' && (place == 0 || place == 4);
                int due = fits(c, place) ? NONE : blankAhead ? place + 1 : place;
                fault("byte " + (int) c + " at " + place, changed, due);
            }
        }
    }

    private void everyEnd() {
        String signs = "h509s20534b40219p10045";
        for (int size = 0; size <= signs.length(); size++) {
            boolean whole = size == 10 || size == 16 || size == 22;
            fault("end at " + size, signs.substring(0, size), whole ? NONE : size);
            // Blanks behind an item that is not whole are the fault, not its end.
            boolean betweenItems = size == 0 || size == 4 || whole;
            int place = whole ? NONE : betweenItems ? size + 2 : size;
            fault("blanks behind " + size, signs.substring(0, size) + "  ", place);
        }
    }

    private void blanks() {
        fault("an empty TEXT", "", 0);
        for (int n : new int[] {1, 2, 59, 60}) {
            fault("blanks alone", " ".repeat(n), n);
        }
        fault("no SHIP", "h509", 4);
        fault("no SHIP but blanks", "h509   ", 7);
        fault("no SHIP, blanks ahead", "   h509", 7);
        sound("no blanks at all", "h509s20534b40219", 2);
        sound("one blank between", "h509 s20534 b40219", 2);
        sound("many blanks between", "h509    s20534     b40219", 2);
        sound("blanks ahead", "     h509s20534", 1);
        sound("blanks behind", "h509s20534     ", 1);
        sound("a blank ahead, between, behind", " h509 s20534 ", 1);
        for (char c : new char[] {0, 9, 10, 13, 31, 33, 160}) {
            fault("no blank: " + (int) c, "h509" + c + "s20534", 4);
            fault("no blank ahead: " + (int) c, c + "h509s20534", 0);
            fault("no blank behind: " + (int) c, "h509s20534" + c, 10);
        }
    }

    /** An item that is broken off by a blank, by a letter, by another item: the fault is where it breaks. */
    private void brokenItems() {
        for (String next : new String[] {" ", "s", "g", "h", " s20534", "s20534", "h509", " h509"}) {
            for (int size = 1; size < 4; size++) {
                fault("the head breaks", "h509".substring(0, size) + next + "s20534", size);
            }
            for (int size = 1; size < 6; size++) {
                fault("the first SHIP breaks", "h509" + "s20534".substring(0, size) + next + "b40219", 4 + size);
                fault("the second SHIP breaks", "h509s20534 " + "b40219".substring(0, size) + next + "s20534", 11 + size);
            }
        }
        fault("a second h", "h509h509s20534", 4);
        fault("a second h behind a SHIP", "h509 s20534 h509", 12);
        fault("a figure too many in the head", "h5091s20534", 4);
        fault("a figure too many in a SHIP", "h509s205341", 10);
        fault("a SHIP ahead of the h", "s20534h509", 0);
        fault("the first of two faults", "h500x20534", 3);
        fault("a minus", "h-09s20534", 1);
    }

    private void seventhShip() {
        sound("six SHIPS", "h509" + SIX, 6);
        sound("six SHIPS and blanks", "h509" + SIX + " ".repeat(20), 6);
        fault("a seventh SHIP", "h509" + SIX + "s12345", 40);
        fault("a seventh SHIP behind a blank", "h509" + SIX + " s12345", 41);
        fault("a seventh SHIP behind blanks", "h509" + SIX + " ".repeat(14) + "s12345", 54);
        fault("a seventh SHIP that is not whole", "h509" + SIX + "s1", 40);
        fault("a seventh SHIP's letter alone", "h509" + SIX + "s", 40);
        fault("a seventh SHIP's letter, last of 60", "h509" + SIX + " ".repeat(19) + "s", 59);
        fault("no letter behind six SHIPS", "h509" + SIX + "x", 40);
        fault("a figure behind six SHIPS", "h509" + SIX + "  5", 42);
        fault("seven and eight", "h509" + SIX + "s12345b12345", 40);
        fault("the sixth is broken", "h509" + SIX.substring(0, 35) + "x", 39);
    }

    private void fullTexts() {
        String one = "h509s20534";
        sound("60 bytes, blanks ahead", " ".repeat(50) + one, 1);
        sound("60 bytes, blanks between", "h509" + " ".repeat(50) + "s20534", 1);
        sound("60 bytes, blanks behind", one + " ".repeat(50), 1);
        fault("60 bytes, no SHIP", " ".repeat(56) + "h509", 60);
        fault("60 bytes, the head ends too early", " ".repeat(57) + "h50", 60);
        fault("60 bytes, an h alone", " ".repeat(59) + "h", 60);
        fault("60 bytes, the SHIP ends too early", " ".repeat(51) + "h509s2053", 60);
        fault("60 bytes, a letter at the end", one + " ".repeat(49) + "b", 60);
        fault("60 bytes, none such at the end", one + " ".repeat(49) + "x", 59);
        fault("60 bytes, none such at the end of blanks", " ".repeat(59) + "x", 59);
    }

    private void factOf(String name, int what, int value) {
        due.tells(name, due.x.ship(0, what), value);
    }

    private void figures() {
        for (int two = 0; two <= 99; two++) {
            String figures = "" + two / 10 + two % 10;
            sound("the YEAR", "h" + figures + "5s20534", 1);
            due.is("the YEAR " + figures, due.x.count(1), two);
            sound("BUILT", "h505s" + figures + "534", 1);
            factOf("BUILT " + figures, 1, two);
        }
        for (int one = 0; one <= 9; one++) {
            sound("the CAPTAIN", "h505s20" + one + "53", 1);
            factOf("the CAPTAIN " + one, 2, one);
            sound("the RAT", "h505s205" + one + "3", 1);
            factOf("the RAT " + one, 3, one);
            sound("the DRAUGHT", "h505s2053" + one, 1);
            factOf("the DRAUGHT " + one, 4, one);
            if (one > 0) {
                sound("the TIDE", "h50" + one + "s20534", 1);
                due.is("the TIDE " + one, due.x.count(3), one);
                due.x.come(0);
                due.x.tide();
                due.is("the TIDE " + one + " again", due.x.count(3), one);
            }
        }
        fault("a TIDE of 0 hours", "h500s20534", 3);
        fault("a figure below 0", "h50/s20534", 3);
        fault("a figure above 9", "h50:s20534", 3);
    }

    private void letters() {
        for (int kind = 0; kind < 6; kind++) {
            sound("a letter", "h505" + LETTERS.charAt(kind) + "20534", 1);
            factOf("KIND of " + LETTERS.charAt(kind), 0, kind);
            fault("a capital", "h505" + Character.toUpperCase(LETTERS.charAt(kind)) + "20534", 4);
        }
        fault("a capital H", "H505s20534", 0);
        sound("SHIPS by number as they come", "h505g00001s00002f00003r00004b00005p00006", 6);
        int[] kinds = {5, 0, 4, 3, 1, 2};
        for (int i = 0; i < 6; i++) {
            due.tells("KIND of SHIP " + i, due.x.ship(i, 0), kinds[i]);
            due.tells("DRAUGHT of SHIP " + i, due.x.ship(i, 4), i + 1);
        }
    }

    /** Bytes are cut ahead of being read: 256 more, or less, is the same sign. */
    private void cutBytes() {
        String signs = "h509 s20534";
        for (int more : new int[] {256, -256, 1 << 30, Integer.MIN_VALUE}) {
            due.anew();
            due.x.text(0, signs.length());
            for (int i = 0; i < signs.length(); i++) {
                due.x.put(0, i, signs.charAt(i) + more);
            }
            due.is(more + " more: fault", due.x.fault(0), NONE);
            due.is(more + " more: harbour", due.x.harbour(0), 1);
            due.tells(more + " more: BUILT", due.x.ship(0, 1), 20);
        }
    }
}
