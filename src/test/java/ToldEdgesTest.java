import java.math.BigInteger;
import java.util.ArrayList;
import java.util.List;

/** Promises 39 to 45 at their edges: what is told before, by refusals, by NONE; counts at their ends; the digest. */
public final class ToldEdgesTest {
    private static final int NOTHING = 1, BEYOND = 2, UNLIKE = 3, NOUGHT = 4, SIZE = 5;
    private static final String SIX = "b00009 f10009 b20009 f30009 b40009 f50009";

    private final Due due = new Due("ToldEdgesTest");

    public static void main(String[] args) {
        ToldEdgesTest test = new ToldEdgesTest();
        test.askedBefore();
        test.askedByEachCall();
        test.askedStaysByNone();
        test.askedStaysByRefusals();
        test.countsOfNone();
        test.countsAtTheirEnds();
        test.countsGoBack();
        test.findingsBefore();
        test.findingsOneByOne();
        test.findingsStay();
        test.digestOfNothing();
        test.digestOfAll();
        test.digestTellsApart();
        test.due.end();
    }

    private BerthAges x() {
        return due.x;
    }

    // ---- promise 39

    private void askedBefore() {
        due.anew();
        due.is("asked() of a new object", x().asked(), 0);
        x().row(0, 3);
        x().text(0, 3);
        x().put(0, 0, 104);
        x().lay(0, 3, 5);
        x().ship(0, 0);
        x().ground();
        x().enter(0);
        due.is("asked() when nothing was told yet", x().asked(), 0);
        due.is("asked() again", x().asked(), 0);
    }

    private void askedByEachCall() {
        due.harbour("h502 s20009 s10003");
        due.row(0, 41, 43);
        due.tells("lay()", x().lay(0, 0, 45), 41);
        due.tells("at()", x().at(0, 0), 45);
        due.tells("mean()", x().mean(0), 44);
        due.tells("ship()", x().ship(0, 1), 20);
        x().come(0);
        due.both("ground()", x().ground(), 1, 7);
        due.both("enter()", x().enter(1), 1, 1);
        due.tells("at()", x().at(0, 0), 45);
        due.both("order()", x().order(1), 1, 1);
        due.both("built()", x().built(1, 1), 80, 20);
        x().tide();
        x().come(1);
        due.row(2, 0, 1);
        due.both("wrong()", x().wrong(2), 1, 3);
        due.row(2);
        due.both("test()", x().test(0, 2), 0, 1);
        due.tells("at() behind it", x().at(0, 1), 43);
        x().tide();
        x().leave(1);
        due.tells("a NONE that is told", x().ship(1, 7), BerthAges.NONE);
    }

    private void askedStaysByNone() {
        due.harbour("h501 s20009 s10003");
        x().come(0);
        due.row(0, 1);
        due.row(1, 50, 1);
        due.row(2, 7);
        x().at(2, 0);
        int[] answers = {x().enter(3), x().order(0), x().built(0, 5), x().test(0, 1), x().when(0, 5)};
        for (int n = 0; n < answers.length; n++) {
            due.is("answer " + n, answers[n], BerthAges.NONE);
        }
        due.is("asked() behind NONE", x().asked(), 7);
    }

    private void askedStaysByRefusals() {
        due.harbour("h501 s20009 s10003");
        due.row(0, 7, 0);
        x().row(1, 0);
        x().row(2, 1);
        x().at(0, 0);
        int[] answers = {
            x().lay(0, 2, 1), x().lay(6, 0, 1), x().lay(5, 0, 1), x().at(0, 2), x().at(6, 0), x().at(5, 0),
            x().mean(1), x().mean(5), x().mean(6), x().ship(2, 0), x().ship(0, 9), x().enter(6), x().order(5),
            x().order(0), x().order(6), x().built(2, 0), x().built(0, 6), x().wrong(5), x().wrong(0), x().wrong(6),
            x().test(2, 0), x().test(0, 5), x().test(0, 2), x().test(0, 6)};
        for (int n = 0; n < answers.length; n++) {
            due.is("refusal " + n, answers[n] == BerthAges.BAD || answers[n] == BerthAges.FINDING ? 1 : 0, 1);
        }
        due.is("asked() behind refusals", x().asked(), 7);
    }

    // ---- promise 42

    private void countsAre(String name, int... want) {
        for (int what = 0; what <= 10; what++) {
            due.is(name + ": count(" + what + ")", x().count(what), want[what]);
        }
    }

    private void countsOfNone() {
        due.anew();
        countsAre("a new object", 0, 0, 0, 0, 0, 0, 0, 0, 0, 0, 0);
        due.harbour("h001 s00000");
        countsAre("the least HARBOUR", 1, 0, 0, 1, 0, 0, 0, 0, 0, 1, 0);
    }

    private void countsAtTheirEnds() {
        due.harbour("h999 " + SIX);
        for (int r = 0; r < 6; r++) {
            x().row(r, 0);
        }
        for (int t = 1; t < 4; t++) {
            x().text(t, 0);
        }
        int aground = 0;
        // From the youngest on: 1 + 2 + 3 + 4 + 5 are shifted; those behind are aground, too: 1 + 2 + .. + 6.
        for (int i = 5; i >= 0; i--) {
            x().come(i);
            x().tide();
            aground += 6 - i;
        }
        for (int d = 12; d < 39; d++) {
            x().tide();
            aground += 6;
        }
        x().year();
        for (int k = 0; k < 3; k++) {
            x().keep(k);
        }
        countsAre("all at their ends", 6, 100, 40, 9, 63, 15, aground, 6, 6, 4, 3);
        due.harbour("h999 s00000 p00000 r00000 g00000 f00000 b00000");
        due.is("BELLS, FORGED ones, too, no others", x().count(7), 2);
        due.harbour("h999 f00000");
        due.is("a FORGED one alone", x().count(7), 1);
        due.harbour("h999 g00000");
        due.is("no BELL", x().count(7), 0);
    }

    private void countsGoBack() {
        due.harbour("h503 s20009 s10009");
        x().come(0);
        x().come(1);
        x().tide();
        x().year();
        countsAre("four DEEDS", 2, 51, 4, 3, 3, 1, 2, 0, 0, 1, 0);
        x().undo(3);
        countsAre("the YEAR undone", 2, 50, 3, 3, 3, 1, 2, 0, 0, 1, 0);
        x().undo(2);
        countsAre("the TIDE undone", 2, 50, 2, 0, 3, 1, 0, 0, 0, 1, 0);
        x().undo(1);
        countsAre("one undone", 2, 50, 1, 2, 1, 0, 0, 0, 0, 1, 0);
        x().undo(0);
        countsAre("all undone", 2, 50, 0, 3, 0, 0, 0, 0, 0, 1, 0);
    }

    // ---- promises 43 and 44

    private void findingsBefore() {
        due.anew();
        due.is("finding() before any", x().finding(), 0);
        for (int f = 1; f <= 5; f++) {
            due.is("findings(" + f + ") before any", x().findings(f), 0);
        }
        x().row(6, 0);
        x().tide();
        x().findings(0);
        x().come(0);
        due.is("other refusals are none", x().finding(), 0);
    }

    /** Finds one of each: by its number. */
    private int find(int finding) {
        switch (finding) {
            case NOTHING: return x().tear(5);
            case BEYOND: return x().at(0, 1);
            case UNLIKE: return x().pay(0);
            case NOUGHT: return x().mean(1);
            default: return x().row(0, -1);
        }
    }

    private void findingsOneByOne() {
        for (int finding = 1; finding <= 5; finding++) {
            due.harbour("h503 s20009");
            x().row(0, 1);
            x().row(1, 0);
            for (int time = 1; time <= 3; time++) {
                due.is("a FINDING " + finding, find(finding), BerthAges.FINDING);
                due.is("finding()", x().finding(), finding);
                for (int f = 1; f <= 5; f++) {
                    due.is("findings(" + f + ") of " + finding, x().findings(f), f == finding ? time : 0);
                }
            }
            int other = finding % 5 + 1;
            find(other);
            due.is("the latest is another", x().finding(), other);
            due.is("findings() of the first", x().findings(finding), 3);
            due.is("findings() of the other", x().findings(other), 1);
        }
    }

    private void findingsStay() {
        due.harbour("h503 s20009");
        x().tear(5);
        x().row(0, 1);
        x().at(0, 0);
        x().come(0);
        x().keep(0);
        x().undo(0);
        x().on(0);
        x().harbour(0);
        x().tea(9);
        x().leave(0);
        due.is("finding() behind other calls", x().finding(), NOTHING);
        due.is("findings() behind other calls", x().findings(NOTHING), 1);
        x().row(0, 1);
        for (int n = 0; n < 400; n++) {
            x().at(0, 1);
        }
        due.is("400 FINDINGS", x().findings(BEYOND), 400);
    }

    // ---- promise 45

    private void digestIs(String name, List<Integer> all) {
        BigInteger h = BigInteger.valueOf(17);
        for (int v : all) {
            h = h.multiply(BigInteger.valueOf(31)).add(BigInteger.valueOf(v));
        }
        // Only here the number is cut to a long, as it would be by wrapping around all the way.
        due.is(name, x().digest(), h.longValue());
    }

    private void digestOfNothing() {
        due.anew();
        List<Integer> all = new ArrayList<>();
        for (int what = 0; what <= 10; what++) {
            all.add(0);
        }
        for (int missing = 0; missing < 3 + 6 + 4; missing++) {
            all.add(-1);
        }
        digestIs("a new object", all);
        x().row(5, 0);
        all.set(8, 1);
        all.set(11 + 3 + 5, 0);
        digestIs("an empty ROW is not missing", all);
        x().text(3, 0);
        all.set(9, 1);
        all.set(11 + 3 + 6 + 3, 0);
        digestIs("an empty TEXT is not missing", all);
        x().tear(5);
        all.set(8, 0);
        all.set(11 + 3 + 5, -1);
        digestIs("a torn ROW is missing", all);
    }

    private void digestOfAll() {
        String signs = "h999 b00009 f10009";
        due.harbour(signs);
        x().come(1);
        x().come(0);
        x().tea(1);
        x().tide();
        x().keep(0);
        x().year();
        x().keep(2);
        List<Integer> all = new ArrayList<>(List.of(2, 100, 5, 9, 3, 1, 2, 2, 4, 2, 2));
        all.addAll(List.of(1, 0, 0, 0, 9, 0, 120, 0, 1));
        all.addAll(List.of(4, 10, 0, 0, 9, 5, 120, 1, 1));
        all.addAll(List.of(4, -1, 5));
        int[] ends = {Integer.MIN_VALUE, Integer.MAX_VALUE, -1, 0, 1};
        for (int r = 0; r < 6; r++) {
            int size = r == 0 ? 40 : r == 5 ? 1 : r % 2 == 1 ? -1 : r;
            all.add(size);
            x().row(r, Math.max(0, size));
            for (int i = 0; i < size; i++) {
                x().lay(r, i, ends[i % 5]);
                all.add(ends[i % 5]);
            }
            if (size < 0) {
                x().tear(r);
            }
        }
        all.add(signs.length());
        signs.chars().forEach(all::add);
        all.addAll(List.of(-1, -1, 60));
        x().text(3, 60);
        for (int i = 0; i < 60; i++) {
            x().put(3, i, 100 + i);
            all.add(100 + i <= 127 ? 100 + i : 100 + i - 256);
        }
        all.set(8, 4);
        digestIs("all there is", all);
    }

    /** Of what the digest does not tell, nothing changes it. */
    private void digestTellsApart() {
        due.harbour("h509 s20000 g10000");
        due.row(0, 7);
        long before = x().digest();
        x().at(0, 0);
        x().at(0, 1);
        x().odds(0, 0, 5);
        x().hours(0);
        x().duel(5);
        x().when(0, 0);
        x().fault(0);
        x().undo(0);
        x().come(9);
        due.is("by questions and refusals it stays", x().digest(), before);
        x().come(0);
        x().leave(0);
        x().undo(0);
        due.is("by what is undone it stays", x().digest(), before);
        x().lay(0, 0, 8);
        // Behind it come five missing ROWS, the TEXT's size and its 18 bytes, three missing TEXTS.
        long change = BigInteger.valueOf(31).pow(5 + 1 + 18 + 3).longValue();
        due.is("by another int it changes", x().digest() - before, change);
    }
}
