import java.util.Random;

/** All promises: the class and the plain model of the document answer long runs of calls alike. */
public final class ModelTest {
    // An object is used for at most 512 calls; the dearest step, a text of 60 bytes and all that is told, takes 69.
    private static final int RUNS = 6000, CALLS = 512, DEAREST_STEP = 69;
    private static final int[] EDGES = {-1, 0, 1, 5, 6, 9, 12, 13, 20, 21, 40, 41, 60, 61, 99, 100, 999, 1000,
        2000, 2001, Integer.MAX_VALUE, Integer.MIN_VALUE, 2147483646};

    private final Random lots;
    private final BerthAges x = new BerthAges();
    private final Model m = new Model();
    private String call = "";
    private long got, want;
    private int spent = 0;

    private ModelTest(long seed) {
        lots = new Random(seed);
    }

    public static void main(String[] args) {
        Due due = new Due("ModelTest");
        for (int run = 0; run < RUNS; run++) {
            ModelTest one = new ModelTest(run);
            for (int n = 0; one.spent + DEAREST_STEP <= CALLS && one.step(due, run, n); n++) {
                // Each step compares; the first difference ends the run, as all behind it may follow from it.
            }
        }
        due.end();
    }

    private boolean step(Due due, int run, int n) {
        if (n == 0 || lots.nextInt(120) == 0) {
            write(lots.nextInt(8) != 0);
            told("harbour(0)", x.harbour(0), m.harbour(0));
        } else {
            next(lots.nextInt(60));
        }
        due.is("run " + run + " step " + n + " " + call, got, want);
        // All that is told behind every other step alone, so that a run has more of the other calls.
        return got == want && (lots.nextBoolean() || sameTold(due, run, n));
    }

    private boolean sameTold(Due due, int run, int n) {
        return same(due, run, n, "asked", x.asked(), m.asked())
                && same(due, run, n, "upper", x.upper(), m.upper())
                && same(due, run, n, "lower", x.lower(), m.lower())
                && same(due, run, n, "finding", x.finding(), m.finding())
                && same(due, run, n, "digest", x.digest(), m.digest());
    }

    private boolean same(Due due, int run, int n, String what, long gotNow, long wantNow) {
        spent++;
        due.is("run " + run + " step " + n + " " + call + " then " + what, gotNow, wantNow);
        return gotNow == wantNow;
    }

    private int below(int n) {
        return lots.nextInt(n);
    }

    /** Mostly a number below n, now and then an edge or a wrong one. */
    private int num(int n) {
        return below(25) == 0 ? EDGES[below(EDGES.length)] : below(n);
    }

    private int ship() {
        int ships = m.count(0);
        return num(ships == 0 ? 2 : ships);
    }

    private String blanks() {
        return " ".repeat(below(3));
    }

    private void write(boolean sound) {
        int ships = 1 + below(below(3) == 0 ? 3 : 6);
        int figure = below(2) == 0 ? 3 : 10;
        StringBuilder s = new StringBuilder(blanks()).append('h').append(below(10)).append(below(10)).append(1 + below(9));
        for (int i = 0; i < ships; i++) {
            s.append(blanks()).append("sbprfg".charAt(below(6))).append(below(figure)).append(below(10));
            s.append(below(figure)).append(below(figure)).append(below(10));
        }
        if (!sound) {
            int p = below(s.length());
            switch (below(4)) {
                case 0 -> s.setCharAt(p, (char) below(256));
                case 1 -> s.setLength(p);
                case 2 -> s.insert(p, ' ');
                default -> s.append("s00000".repeat(3));
            }
        }
        int size = Math.min(60, s.length());
        x.text(0, size);
        m.text(0, size);
        for (int i = 0; i < size; i++) {
            x.put(0, i, s.charAt(i));
            m.put(0, i, s.charAt(i));
        }
        spent += 1 + size;
        told("fault(0)", x.fault(0), m.fault(0));
        if (got != want) {
            throw new IllegalStateException("fault of '" + s + "': " + got + ", due is " + want);
        }
    }

    private void told(String name, long gotNow, long wantNow) {
        spent++;
        call = name;
        got = gotNow;
        want = wantNow;
    }

    private void next(int which) {
        if (which < 15) {
            rowsAndTexts(which);
        } else if (which < 37) {
            deeds(which - 15);
        } else if (which < 52) {
            questions(which - 37);
        } else {
            chances(which - 52);
        }
    }

    private void rowsAndTexts(int which) {
        int r = num(6), i = num(7), v = num(7), to = num(6), j = num(5), n = num(5), what = num(11);
        switch (which) {
            case 0 -> told("row " + r + " " + i, x.row(r, i), m.row(r, i));
            case 1, 2, 3 -> told("lay " + r + " " + i + " " + v, x.lay(r, i, v), m.lay(r, i, v));
            case 4 -> told("at " + r + " " + i, x.at(r, i), m.at(r, i));
            case 5 -> told("tear " + r, x.tear(r), m.tear(r));
            case 6 -> told("copy " + r + " " + i + " " + to + " " + j + " " + n, x.copy(r, i, to, j, n), m.copy(r, i, to, j, n));
            case 7 -> told("mean " + r, x.mean(r), m.mean(r));
            case 8 -> told("text " + r + " " + i, x.text(r, i), m.text(r, i));
            case 9 -> told("put " + r + " " + i + " " + v, x.put(r, i, v * 50), m.put(r, i, v * 50));
            case 10 -> told("fault " + r, x.fault(r), m.fault(r));
            case 11 -> {
                int t = below(10) == 0 ? r : 1 + below(3);
                told("harbour " + t, x.harbour(t), m.harbour(t));
            }
            case 12 -> told("findings " + i, x.findings(i), m.findings(i));
            default -> told("count " + what, x.count(what), m.count(what));
        }
    }

    private void deeds(int which) {
        int i = ship(), k = num(3), n = num(41);
        switch (which) {
            case 0, 1, 2, 3, 4, 5 -> told("come " + i, x.come(i), m.come(i));
            case 6, 7 -> told("leave " + i, x.leave(i), m.leave(i));
            case 8, 9 -> told("pay " + i, x.pay(i), m.pay(i));
            case 10, 11, 12 -> told("tea " + i, x.tea(i), m.tea(i));
            case 13, 14, 15 -> told("tide", x.tide(), m.tide());
            case 16, 17 -> told("year", x.year(), m.year());
            case 18 -> told("undo " + n, x.undo(n), m.undo(n));
            case 19 -> told("keep " + k, x.keep(k), m.keep(k));
            case 20 -> told("on " + k, x.on(k), m.on(k));
            default -> {
                int count = num(21), seed = below(3) == 0 ? num(9) : below(Integer.MAX_VALUE);
                told("lots " + count + " " + seed, x.lots(count, seed), m.lots(count, seed));
            }
        }
    }

    /** A row of ships that are in, or outside, in some order; or of years and ages. */
    private void fillRow(int r, boolean ships) {
        int size = ships ? below(5) : 2 * below(3);
        spent += 1 + 2 * size;
        x.row(r, size);
        m.row(r, size);
        int one = ship();
        for (int i = 0; i < size; i++) {
            int v = ships ? below(Math.max(1, m.count(0))) : i % 2 == 0 ? below(150) : 0;
            if (!ships && i % 2 == 1) {
                m.at(r, i - 1);
                v = Math.max(0, m.age(one, m.asked()) + (below(6) == 0 ? 20 : 0));
            }
            x.lay(r, i, v);
            m.lay(r, i, v);
            x.at(r, i);
            m.at(r, i);
        }
    }

    private void questions(int which) {
        int i = ship(), k = num(6), r = num(6), what = num(9), year = num(1000);
        if ((which == 5 || which == 9) && r >= 0 && r < 6 && below(4) != 0) {
            fillRow(r, true);
        }
        if ((which == 10 || which == 11) && r >= 0 && r < 6 && below(4) != 0) {
            fillRow(r, false);
        }
        switch (which) {
            case 0 -> told("ship " + i + " " + what, x.ship(i, what), m.ship(i, what));
            case 1 -> told("mark " + i + " " + k, x.mark(i, k), m.mark(i, k));
            case 2 -> told("age " + i + " " + year, x.age(i, year), m.age(i, year));
            case 3 -> told("berths " + r, x.berths(r), m.berths(r));
            case 4 -> told("enter " + r, x.enter(r), m.enter(r));
            case 5 -> told("order " + r, x.order(r), m.order(r));
            case 6 -> told("when " + i + " " + k, x.when(i, k), m.when(i, k));
            case 7 -> told("built " + i + " " + k, x.built(i, k), m.built(i, k));
            case 8 -> told("least " + i + " " + k, x.least(i, k), m.least(i, k));
            case 9 -> told("wrong " + r, x.wrong(r), m.wrong(r));
            case 10 -> told("kinds " + i + " " + r, x.kinds(i, r), m.kinds(i, r));
            case 11 -> told("test " + i + " " + r, x.test(i, r), m.test(i, r));
            case 12 -> told("hours " + i, x.hours(i), m.hours(i));
            case 13 -> told("ground", x.ground(), m.ground());
            default -> told("mark " + i + " " + 4, x.mark(i, 4), m.mark(i, 4));
        }
    }

    private void chances(int which) {
        int i = ship(), k = num(6), p = num(13), n = num(6);
        switch (which) {
            case 0, 1, 2 -> told("odds " + i + " " + k + " " + p, x.odds(i, k, p), m.odds(i, k, p));
            case 3, 4 -> told("mid " + i + " " + p, x.mid(i, p), m.mid(i, p));
            case 5, 6 -> told("duel " + n, x.duel(n), m.duel(n));
            default -> told("findings " + k, x.findings(k), m.findings(k));
        }
    }
}
