import java.util.ArrayList;
import java.util.List;

/** Promises 1, 39 and 42 to 45: a new object, what is told, counted and digested. */
public final class ToldTest {
    private static final int NOTHING = 1, BEYOND = 2, UNLIKE = 3, NOUGHT = 4, SIZE = 5;

    public static void main(String[] args) {
        Due due = new Due("ToldTest");
        newObject(due);
        asks(due);
        counts(due);
        tellsFindings(due);
        digests(due);
        due.end();
    }

    private static void newObject(Due due) {
        due.anew();
        BerthAges x = due.x;
        for (int what = 0; what <= 10; what++) {
            due.is("new count(" + what + ")", x.count(what), 0);
        }
        due.is("new asked()", x.asked(), 0);
        due.is("new upper()", x.upper(), 0);
        due.is("new lower()", x.lower(), 1);
        due.is("new finding()", x.finding(), 0);
        for (int f = 1; f <= 5; f++) {
            due.is("new findings(" + f + ")", x.findings(f), 0);
        }
        long h = 17;
        for (int v = 0; v < 11; v++) {
            h = 31 * h;
        }
        for (int v = 0; v < 3 + 6 + 4; v++) {
            h = 31 * h - 1;
        }
        due.is("new digest()", x.digest(), h);
        due.is("digest() again", x.digest(), h);
        for (int r = 0; r < 6; r++) {
            due.is("new at(" + r + ", 0)", x.at(r, 0), BerthAges.FINDING);
        }
        for (int t = 0; t < 4; t++) {
            due.is("new fault(" + t + ")", x.fault(t), BerthAges.FINDING);
        }
        BerthAges other = new BerthAges();
        x.row(0, 1);
        due.is("objects share nothing", other.count(8), 0);
    }

    private static void asks(Due due) {
        due.harbour("h502 s10003 s20009");
        BerthAges x = due.x;
        due.row(0, 11);
        due.tells("lay()", x.lay(0, 0, 12), 11);
        due.tells("at()", x.at(0, 0), 12);
        due.tells("ship()", x.ship(1, 1), 20);
        due.tells("mean()", x.mean(0), 12);
        x.come(0);
        due.both("ground()", x.ground(), 1, 1);
        due.tells("ship() of one outside", x.ship(1, 7), BerthAges.NONE);
        due.both("enter()", x.enter(1), 0, 0);
        x.at(0, 0);
        due.both("order()", x.order(1), 0, 0);
        due.both("built()", x.built(1, 1), 90, 10);
        due.both("wrong() of an empty row", x.row(2, 0) + x.wrong(2), 0, 0);
        due.both("test()", x.test(0, 2), 0, 1);
        due.row(3, 7, 8);
        x.at(3, 1);
        int[] others = {
            x.row(4, 1), x.copy(3, 0, 4, 0, 1), x.text(1, 1), x.put(1, 0, 9), x.fault(1), x.age(0, 9), x.hours(0),
            x.berths(5), x.when(0, 0), x.least(0, 0), x.kinds(0, 2), x.duel(2), x.odds(0, 0, 3), x.mid(0, 3),
            x.tea(0), x.year(), x.tide(), x.lots(1, 5), x.keep(0), x.on(0), x.undo(0), x.tear(4), x.count(0),
            x.finding(), x.findings(1), x.lay(3, 9, 9), x.at(9, 9), x.mean(4), x.ship(9, 9), x.built(0, 5),
            x.enter(9), x.order(4), x.wrong(4), x.test(9, 9)};
        due.is("asked() stays by " + others.length + " others", x.asked(), 8);
    }

    private static void counts(Due due) {
        due.harbour("h505 b10009 f20000 s30000 g40000");
        BerthAges x = due.x;
        x.come(1);
        x.come(0);
        x.tide();
        x.year();
        due.row(0, 1);
        x.row(4, 0);
        x.text(3, 9);
        x.keep(0);
        x.keep(2);
        int[] want = {4, 51, 4, 5, 3, 1, 1, 2, 2, 2, 2};
        for (int what = 0; what < want.length; what++) {
            due.is("count(" + what + ")", x.count(what), want[what]);
        }
        x.tear(4);
        due.is("count(8) of a torn row", x.count(8), 1);
        for (int what : new int[] {-1, 11, Integer.MAX_VALUE, Integer.MIN_VALUE}) {
            due.is("count(" + what + ")", x.count(what), BerthAges.BAD);
        }
    }

    private static void tellsFindings(Due due) {
        due.harbour("h505 s30000");
        BerthAges x = due.x;
        x.row(0, 0);
        x.at(1, 0);
        x.at(2, 0);
        x.at(0, 0);
        x.pay(0);
        x.pay(0);
        x.mark(0, 1);
        x.mean(0);
        x.text(0, -1);
        int[] want = {2, 1, 3, 1, 1};
        for (int f = 1; f <= 5; f++) {
            due.is("findings(" + f + ")", x.findings(f), want[f - 1]);
        }
        due.is("the latest", x.finding(), SIZE);
        x.at(0, 0);
        due.is("the latest one is another", x.finding(), BEYOND);
        x.row(9, 9);
        x.leave(0);
        due.is("other refusals are no FINDING", x.finding(), BEYOND);
        due.finds("NOTHING", () -> x.tear(5), NOTHING);
        due.finds("UNLIKE", () -> x.pay(0), UNLIKE);
        due.finds("NOUGHT", () -> x.mean(0), NOUGHT);
        due.is("findings(0)", x.findings(0), BerthAges.BAD);
        due.is("findings(6)", x.findings(6), BerthAges.BAD);
        due.is("findings(-1)", x.findings(-1), BerthAges.BAD);
    }

    private static void digests(Due due) {
        String signs = "h505 b10009 g40000";
        due.harbour(signs);
        BerthAges x = due.x;
        x.come(0);
        x.tea(1);
        x.tide();
        x.keep(1);
        due.row(2, 5, -6);
        x.row(5, 0);
        x.text(3, 1);
        x.put(3, 0, 200);
        List<Integer> all = new ArrayList<>(List.of(2, 50, 3, 5, 1, 0, 1, 1, 2, 2, 1));
        all.addAll(List.of(1, 10, 0, 0, 9, 0, 60, 0, 1));
        all.addAll(List.of(5, 40, 0, 0, 0, 5, 0, -9, 0));
        all.addAll(List.of(-1, 3, -1));
        all.addAll(List.of(-1, -1, 2, 5, -6, -1, -1, 0));
        all.add(signs.length());
        signs.chars().forEach(all::add);
        all.addAll(List.of(-1, -1, 1, -56));
        long h = 17;
        for (int v : all) {
            h = 31 * h + v;
        }
        due.is("digest()", x.digest(), h);
        x.asked();
        x.upper();
        x.at(0, 0);
        due.is("digest() is the same by what is only asked", x.digest(), h);
    }
}
