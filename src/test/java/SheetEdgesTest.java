/** Promises 1 to 9 at their edges: ROWS and TEXTS that are missing, empty, full; sums, places, bytes that are cut. */
public final class SheetEdgesTest {
    private static final int NOTHING = 1, BEYOND = 2, NOUGHT = 4;
    private static final int MIN = Integer.MIN_VALUE, MAX = Integer.MAX_VALUE;

    private final Due due = new Due("SheetEdgesTest");

    public static void main(String[] args) {
        SheetEdgesTest test = new SheetEdgesTest();
        test.missingAtFirst();
        test.emptyRows();
        test.fullRows();
        test.rowsAnew();
        test.rowsAreApart();
        test.laysTheEnds();
        test.tornRows();
        test.copiesNone();
        test.copiesAll();
        test.copiesOntoItself();
        test.meansAreCut();
        test.meansOfGreatSums();
        test.emptyTexts();
        test.fullTexts();
        test.textsAnew();
        test.bytesAreCut();
        test.due.end();
    }

    private BerthAges x() {
        return due.x;
    }

    private void missingAtFirst() {
        due.anew();
        for (int r = 0; r < 6; r++) {
            int row = r;
            due.finds("at(" + r + ", 0)", () -> x().at(row, 0), NOTHING);
            due.finds("lay(" + r + ", 0, 1)", () -> x().lay(row, 0, 1), NOTHING);
            due.finds("tear(" + r + ")", () -> x().tear(row), NOTHING);
            due.finds("mean(" + r + ")", () -> x().mean(row), NOTHING);
            due.finds("copy of ROW " + r, () -> x().copy(row, 0, row, 0, 0), NOTHING);
        }
        for (int t = 0; t < 4; t++) {
            int text = t;
            due.finds("put(" + t + ", 0, 1)", () -> x().put(text, 0, 1), NOTHING);
            due.finds("fault(" + t + ")", () -> x().fault(text), NOTHING);
            due.finds("harbour(" + t + ")", () -> x().harbour(text), NOTHING);
        }
        due.is("no SHIPS", x().count(0), 0);
        due.is("no ROWS", x().count(8), 0);
        due.is("no TEXTS", x().count(9), 0);
    }

    private void emptyRows() {
        due.anew();
        for (int r = 0; r < 6; r++) {
            int row = r;
            due.is("row(" + r + ", 0)", x().row(r, 0), 0);
            due.is("it is there", x().count(8), r + 1);
            due.finds("it has no place", () -> x().at(row, 0), BEYOND);
            due.finds("nor one to lay", () -> x().lay(row, 0, 1), BEYOND);
            due.finds("shared among none", () -> x().mean(row), NOUGHT);
        }
        due.is("an empty one can be torn", x().tear(5), 1);
        due.is("five are there", x().count(8), 5);
    }

    private void fullRows() {
        due.anew();
        due.is("row(5, 40)", x().row(5, 40), 40);
        for (int i = 0; i < 40; i++) {
            due.tells("at(5, " + i + ") is 0 at first", x().at(5, i), 0);
            due.tells("lay(5, " + i + ", ..)", x().lay(5, i, 100 + i), 0);
        }
        for (int i = 0; i < 40; i++) {
            due.tells("at(5, " + i + ")", x().at(5, i), 100 + i);
        }
        due.finds("at(5, 40)", () -> x().at(5, 40), BEYOND);
        due.finds("lay(5, 40, 1)", () -> x().lay(5, 40, 1), BEYOND);
        due.tells("mean of 40", x().mean(5), 119);
    }

    private void rowsAnew() {
        due.anew();
        int[] full = new int[40];
        java.util.Arrays.fill(full, 7);
        due.row(0, full);
        due.is("a shorter one", x().row(0, 2), 2);
        due.rowIs("a shorter one is of 0", 0, 0, 0);
        due.is("a longer one", x().row(0, 40), 40);
        due.rowIs("what was there long ago does not come back", 0, new int[40]);
        due.row(0, 1, 2);
        due.is("one of the same size", x().row(0, 2), 2);
        due.rowIs("is of 0, too", 0, 0, 0);
        due.is("an empty one", x().row(0, 0), 0);
        due.rowIs("an empty one", 0);
        due.is("still one ROW", x().count(8), 1);
    }

    private void rowsAreApart() {
        due.anew();
        for (int r = 0; r < 6; r++) {
            due.row(r, 10 * r, 10 * r + 1);
        }
        due.is("six ROWS", x().count(8), 6);
        x().lay(3, 1, 99);
        x().tear(4);
        x().row(5, 1);
        due.rowIs("ROW 0", 0, 0, 1);
        due.rowIs("ROW 2", 2, 20, 21);
        due.rowIs("ROW 3", 3, 30, 99);
        due.rowIs("ROW 5", 5, 0);
    }

    private void laysTheEnds() {
        due.anew();
        x().row(0, 40);
        for (int place : new int[] {0, 39}) {
            due.tells("the least int", x().lay(0, place, MIN), 0);
            due.tells("the greatest int: what it was", x().lay(0, place, MAX), MIN);
            due.tells("-1", x().lay(0, place, -1), MAX);
            due.tells("at", x().at(0, place), -1);
        }
        due.tells("the place between stays", x().at(0, 20), 0);
    }

    private void tornRows() {
        due.anew();
        due.row(2, 4, 5);
        due.is("tear(2)", x().tear(2), 1);
        due.is("no ROW", x().count(8), 0);
        due.finds("tear(2) again", () -> x().tear(2), NOTHING);
        due.finds("copy from a torn one", () -> x().copy(2, 0, 2, 0, 1), NOTHING);
        due.finds("lay in a torn one", () -> x().lay(2, 0, 1), NOTHING);
        due.finds("mean of a torn one", () -> x().mean(2), NOTHING);
        x().row(2, 2);
        due.rowIs("there again, of 0", 2, 0, 0);
    }

    private void copiesNone() {
        due.anew();
        x().row(0, 0);
        x().row(1, 0);
        due.is("none of an empty ROW to an empty one", x().copy(0, 0, 1, 0, 0), 1);
        due.is("none of an empty ROW to itself", x().copy(0, 0, 0, 0, 0), 1);
        due.finds("one of an empty ROW", () -> x().copy(0, 0, 1, 0, 1), BEYOND);
        due.finds("none from place 1 of an empty ROW", () -> x().copy(0, 1, 1, 0, 0), BEYOND);
        due.row(2, 1, 2);
        due.row(3, 3, 4);
        due.is("none", x().copy(2, 0, 3, 0, 0), 1);
        due.is("none from the end to the end", x().copy(2, 2, 3, 2, 0), 1);
        due.rowIs("none changes nothing", 3, 3, 4);
        due.finds("none from behind the end", () -> x().copy(2, 3, 3, 0, 0), BEYOND);
        due.finds("none to behind the end", () -> x().copy(2, 0, 3, 3, 0), BEYOND);
    }

    private static int[] rising(int n, int from) {
        int[] ints = new int[n];
        for (int i = 0; i < n; i++) {
            ints[i] = from + i;
        }
        return ints;
    }

    private void copiesAll() {
        due.anew();
        due.row(0, rising(40, 1));
        due.row(1, rising(40, 101));
        due.is("all 40", x().copy(0, 0, 1, 0, 40), 1);
        due.rowIs("all 40", 1, rising(40, 1));
        due.is("the last to the first", x().copy(0, 39, 1, 0, 1), 1);
        due.tells("the first", x().at(1, 0), 40);
        due.is("the first to the last", x().copy(0, 0, 1, 39, 1), 1);
        due.tells("the last", x().at(1, 39), 1);
        due.anew();
        due.row(0, rising(40, 1));
        x().row(1, 1);
        x().at(0, 6);
        due.is("one to a shorter ROW", x().copy(0, 39, 1, 0, 1), 1);
        due.is("asked() stays", x().asked(), 7);
        due.rowIs("one to a shorter ROW", 1, 40);
        due.finds("two to a shorter ROW", () -> x().copy(0, 0, 1, 0, 2), BEYOND);
    }

    private void copiesOntoItself() {
        due.anew();
        due.row(0, rising(40, 0));
        due.is("up by one", x().copy(0, 0, 0, 1, 39), 1);
        int[] up = rising(40, -1);
        up[0] = 0;
        due.rowIs("up by one, as if taken ahead", 0, up);
        due.anew();
        due.row(0, rising(40, 0));
        due.is("down by one", x().copy(0, 1, 0, 0, 39), 1);
        int[] down = rising(40, 1);
        down[39] = 39;
        due.rowIs("down by one, as if taken ahead", 0, down);
        due.is("all to where they are", x().copy(0, 0, 0, 0, 40), 1);
        due.rowIs("all to where they are", 0, down);
    }

    private void mean(String name, int want, int... ints) {
        due.anew();
        due.row(0, ints);
        due.tells(name, x().mean(0), want);
        due.rowIs(name + ": the ROW stays", 0, ints);
    }

    private void meansAreCut() {
        mean("of one", 7, 7);
        mean("of one below 0", -7, -7);
        mean("1 by 2", 0, 0, 1);
        mean("3 by 2", 1, 1, 2);
        mean("5 by 3", 1, 1, 2, 2);
        mean("-1 by 2 is cut to 0", 0, 0, -1);
        mean("-3 by 2 is cut to -1", -1, -1, -2);
        mean("-5 by 3 is cut to -1", -1, -1, -2, -2);
        mean("0", 0, -4, 4);
        int[] forty = new int[40];
        forty[39] = 39;
        mean("39 by 40", 0, forty);
        forty[39] = 40;
        mean("40 by 40", 1, forty);
        forty[39] = -39;
        mean("-39 by 40", 0, forty);
    }

    private void meansOfGreatSums() {
        mean("two of the greatest", MAX, MAX, MAX);
        mean("two of the least", MIN, MIN, MIN);
        mean("the least and the greatest: -1 by 2", 0, MIN, MAX);
        mean("the greatest and 1: past the ints", 1 << 30, MAX, 1);
        int[] forty = new int[40];
        java.util.Arrays.fill(forty, MAX);
        mean("forty of the greatest", MAX, forty);
        java.util.Arrays.fill(forty, MIN);
        mean("forty of the least", MIN, forty);
    }

    private void emptyTexts() {
        due.anew();
        for (int t = 0; t < 4; t++) {
            int text = t;
            due.is("text(" + t + ", 0)", x().text(t, 0), 0);
            due.is("it is there", x().count(9), t + 1);
            due.finds("it has no byte", () -> x().put(text, 0, 1), BEYOND);
            due.is("its FAULT", x().fault(t), 0);
            due.is("no HARBOUR", x().harbour(t), BerthAges.STATE);
        }
    }

    private void fullTexts() {
        due.anew();
        due.is("text(3, 60)", x().text(3, 60), 60);
        for (int i = 0; i < 60; i++) {
            due.is("put(3, " + i + ", ..): a blank", x().put(3, i, i), 1032);
        }
        for (int i = 0; i < 60; i++) {
            due.is("put(3, " + i + ", ..) again", x().put(3, i, 0), 1000 + i);
        }
        due.finds("put(3, 60, 1)", () -> x().put(3, 60, 1), BEYOND);
    }

    private void textsAnew() {
        due.anew();
        due.write(0, "x".repeat(60));
        x().text(0, 1);
        x().text(0, 60);
        for (int i = 0; i < 60; i++) {
            due.is("a blank at " + i, x().put(0, i, 'y'), 1032);
        }
        due.write(1, "ab");
        due.is("TEXTS are apart", x().put(0, 0, 'z'), 1000 + 'y');
        due.is("TEXTS are apart", x().put(1, 0, 'z'), 1000 + 'a');
        due.is("two TEXTS", x().count(9), 2);
    }

    private void byteOf(int v, int want) {
        due.anew();
        x().text(0, 2);
        due.is("a blank, then " + v, x().put(0, 1, v), 1032);
        due.is(v + " cut to a byte", x().put(0, 1, 5), 1000 + want);
        due.is("the byte beside it", x().put(0, 0, 5), 1032);
    }

    private void bytesAreCut() {
        for (int v = -600; v <= 600; v++) {
            byteOf(v, Math.floorMod(v + 128, 256) - 128);
        }
        byteOf(MAX, -1);
        byteOf(MIN, 0);
        byteOf(0x12345678, 0x78);
        byteOf(0x123456f8, -8);
    }
}
