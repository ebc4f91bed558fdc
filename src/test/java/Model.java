import java.math.BigInteger;
import java.nio.charset.StandardCharsets;
import java.util.ArrayList;
import java.util.Arrays;
import java.util.Comparator;
import java.util.HashMap;
import java.util.List;
import java.util.Map;
import java.util.regex.Matcher;
import java.util.regex.Pattern;

/**
 * The document told a second time, in the plainest way and with the whole library: sorted lists, copies of the
 * whole harbour for undo, every order, every set of sunken ships. ModelTest compares it with the class.
 */
final class Model {
    static final int BAD = -1, FULL = -2, FINDING = -3, STATE = -4, SPENT = -6, NONE = -9;

    record Ship(int number, int kind, int built, int captain, int rat, int draught, int tea, boolean paid,
                boolean in, int aground) {
        int age(int year) {
            int old = Math.max(0, year - built);
            return switch (kind) {
                case 1 -> old + tea + 20;
                case 2 -> old / 2 + tea;
                case 3 -> old + tea < 90 ? 90 : old + tea;
                case 4 -> old + tea + 25;
                case 5 -> !paid ? 0 : old + tea < 90 ? 90 : old + tea;
                default -> old + tea;
            };
        }

        Ship ofKind(int k) {
            return new Ship(number, k, built, captain, rat, draught, tea, paid, in, aground);
        }

        Ship builtIn(int b) {
            return new Ship(number, kind, b, captain, rat, draught, tea, paid, in, aground);
        }

        Ship withTea(int t) {
            return new Ship(number, kind, built, captain, rat, draught, t, paid, in, aground);
        }

        Ship thatPaid() {
            return new Ship(number, kind, built, captain, rat, draught, tea, true, in, aground);
        }

        Ship thatIs(boolean inside) {
            return new Ship(number, kind, built, captain, rat, draught, tea, paid, inside, aground);
        }

        Ship agroundOnceMore() {
            return new Ship(number, kind, built, captain, rat, draught, tea, paid, in, aground + 1);
        }
    }

    record State(List<Ship> ships, int year, int tide, int left, int shifted) {
        static Comparator<Ship> aheadFirst(int year) {
            return Comparator.comparingInt((Ship s) -> -s.age(year)).thenComparingInt(s -> -s.captain)
                    .thenComparingInt(s -> -s.rat).thenComparingInt(s -> s.number);
        }

        List<Ship> inside(int inYear) {
            List<Ship> list = new ArrayList<>(ships.stream().filter(Ship::in).toList());
            list.sort(aheadFirst(inYear));
            return list;
        }

        State with(Ship s) {
            List<Ship> list = new ArrayList<>(ships);
            list.set(s.number, s);
            return new State(list, year, tide, left, shifted);
        }

        State with(int newYear, int newLeft, int newShifted) {
            return new State(ships, newYear, tide, newLeft, newShifted);
        }

        /** The berth of a ship, as if she was in. */
        int berth(Ship s, int inYear) {
            int place = 0;
            for (Ship other : with(s.thatIs(true)).inside(inYear)) {
                if (other.number == s.number) {
                    return place;
                }
                place++;
            }
            throw new IllegalStateException();
        }

        int hours(int i) {
            Comparator<Ship> order = aheadFirst(year);
            return 1 + (int) ships.stream().filter(s -> s.in && s.number != i && order.compare(ships.get(i), s) < 0).count();
        }

        State move(int i) {
            int hours = hours(i);
            Ship s = ships.get(i);
            return with(s.thatIs(!s.in)).with(year, left - hours, shifted + hours - 1);
        }

        List<Ship> tooDeep() {
            List<Ship> list = new ArrayList<>();
            List<Ship> lying = inside(year);
            for (int k = 0; k < lying.size(); k++) {
                if (lying.get(k).draught > k + 2) {
                    list.add(lying.get(k));
                }
            }
            return list;
        }

        State passTide() {
            State then = this;
            for (Ship s : tooDeep()) {
                then = then.with(s.agroundOnceMore());
            }
            return then.with(year, tide, shifted);
        }
    }

    static int bits(List<Ship> ships) {
        return ships.stream().mapToInt(s -> 1 << s.number).sum();
    }

    private final int[][] rows = new int[6][];
    private final byte[][] texts = new byte[4][];
    private State now = new State(List.of(), 0, 0, 0, 0);
    private List<State> before = new ArrayList<>();
    private final State[] keptState = new State[3];
    private final List<List<State>> keptBefore = new ArrayList<>(Arrays.asList(null, null, null));
    private final int[] findings = new int[6];
    private int finding, told;
    private BigInteger over = BigInteger.ZERO, under = BigInteger.ONE;

    private int finds(int f) {
        finding = f;
        findings[f]++;
        return FINDING;
    }

    private static boolean within(int v, int from, int to) {
        return from <= v && v <= to;
    }

    private boolean isShip(int i) {
        return within(i, 0, now.ships.size() - 1);
    }

    int row(int r, int n) {
        if (!within(r, 0, 5) || n > 40) return BAD;
        if (n < 0) return finds(5);
        rows[r] = new int[n];
        return n;
    }

    int lay(int r, int i, int v) {
        if (!within(r, 0, 5)) return BAD;
        if (rows[r] == null) return finds(1);
        if (!within(i, 0, rows[r].length - 1)) return finds(2);
        told = rows[r][i];
        rows[r][i] = v;
        return 1;
    }

    int at(int r, int i) {
        if (!within(r, 0, 5)) return BAD;
        if (rows[r] == null) return finds(1);
        if (!within(i, 0, rows[r].length - 1)) return finds(2);
        told = rows[r][i];
        return 1;
    }

    int tear(int r) {
        if (!within(r, 0, 5)) return BAD;
        if (rows[r] == null) return finds(1);
        rows[r] = null;
        return 1;
    }

    int copy(int r, int i, int to, int j, int n) {
        if (!within(r, 0, 5) || !within(to, 0, 5)) return BAD;
        if (n < 0) return finds(5);
        if (rows[r] == null || rows[to] == null) return finds(1);
        if (i < 0 || j < 0 || (long) i + n > rows[r].length || (long) j + n > rows[to].length) return finds(2);
        int[] taken = Arrays.copyOfRange(rows[r], i, i + n);
        for (int d = 0; d < n; d++) rows[to][j + d] = taken[d];
        return 1;
    }

    int mean(int r) {
        if (!within(r, 0, 5)) return BAD;
        if (rows[r] == null) return finds(1);
        if (rows[r].length == 0) return finds(4);
        told = (int) (Arrays.stream(rows[r]).asLongStream().sum() / rows[r].length);
        return 1;
    }

    int text(int t, int n) {
        if (!within(t, 0, 3) || n > 60) return BAD;
        if (n < 0) return finds(5);
        texts[t] = new byte[n];
        Arrays.fill(texts[t], (byte) 32);
        return n;
    }

    int put(int t, int i, int v) {
        if (!within(t, 0, 3)) return BAD;
        if (texts[t] == null) return finds(1);
        if (!within(i, 0, texts[t].length - 1)) return finds(2);
        int was = texts[t][i];
        texts[t][i] = (byte) v;
        return was + 1000;
    }

    private static final Pattern HARBOUR = Pattern.compile(" *h([0-9][0-9])([1-9]) *(([sbprfg][0-9]{5} *){1,6})");

    private static int faultOf(String signs) {
        for (int size = 1; size <= signs.length(); size++) {
            Matcher m = HARBOUR.matcher(signs.substring(0, size));
            // Whether signs behind could still make it one.
            if (!m.matches() && !m.hitEnd()) return size - 1;
        }
        return HARBOUR.matcher(signs).matches() ? NONE : signs.length();
    }

    int fault(int t) {
        if (!within(t, 0, 3)) return BAD;
        if (texts[t] == null) return finds(1);
        return faultOf(new String(texts[t], StandardCharsets.ISO_8859_1));
    }

    int harbour(int t) {
        if (!within(t, 0, 3)) return BAD;
        if (texts[t] == null) return finds(1);
        Matcher m = HARBOUR.matcher(new String(texts[t], StandardCharsets.ISO_8859_1));
        if (!m.matches()) return STATE;
        List<Ship> ships = new ArrayList<>();
        String told = m.group(3).replace(" ", "");
        for (int p = 0; p < told.length(); p += 6) {
            ships.add(new Ship(p / 6, "sbprfg".indexOf(told.charAt(p)), Integer.parseInt(told.substring(p + 1, p + 3)),
                    told.charAt(p + 3) - '0', told.charAt(p + 4) - '0', told.charAt(p + 5) - '0', 0, false, false, 0));
        }
        int hours = Integer.parseInt(m.group(2));
        now = new State(ships, Integer.parseInt(m.group(1)), hours, hours, 0);
        before = new ArrayList<>();
        Arrays.fill(keptState, null);
        return ships.size();
    }

    private int fact(int i, int what) {
        Ship s = now.ships.get(i);
        return switch (what) {
            case 0 -> s.kind;
            case 1 -> s.built;
            case 2 -> s.captain;
            case 3 -> s.rat;
            case 4 -> s.draught;
            case 5 -> s.tea;
            case 6 -> s.age(now.year);
            case 7 -> s.in ? now.berth(s, now.year) : NONE;
            default -> s.aground;
        };
    }

    int ship(int i, int what) {
        if (!isShip(i) || !within(what, 0, 8)) return BAD;
        told = fact(i, what);
        return 1;
    }

    private int behind(Ship s) {
        Comparator<Ship> order = State.aheadFirst(now.year);
        return (int) now.ships.stream().filter(o -> o.number != s.number && order.compare(s, o) < 0).count();
    }

    int mark(int i, int kind) {
        if (!isShip(i) || !within(kind, 1, 5)) return BAD;
        Ship s = now.ships.get(i);
        boolean is = s.kind == kind || s.kind == 4 && kind == 1 || s.kind == 5 && kind == 3;
        if (!is) return finds(3);
        int plain = Math.max(0, now.year - s.built) + s.tea;
        return switch (kind) {
            case 1 -> s.age(now.year) - plain;
            case 2 -> plain - s.age(now.year);
            case 3 -> now.ships.size() - 1 - behind(s);
            case 4 -> behind(s) - behind(s.ofKind(1));
            default -> s.paid ? 1 : 0;
        };
    }

    int age(int i, int year) {
        if (!isShip(i) || !within(year, 0, 999)) return BAD;
        return now.ships.get(i).age(year);
    }

    private boolean deed(State then) {
        if (before.size() >= 40) return false;
        before.add(now);
        now = then;
        return true;
    }

    int come(int i) {
        if (!isShip(i)) return BAD;
        if (now.ships.get(i).in) return STATE;
        int hours = now.hours(i);
        if (hours > now.left) return SPENT;
        return deed(now.move(i)) ? hours - 1 : FULL;
    }

    int leave(int i) {
        if (!isShip(i)) return BAD;
        if (!now.ships.get(i).in) return STATE;
        int hours = now.hours(i);
        if (hours > now.left) return SPENT;
        return deed(now.move(i)) ? hours - 1 : FULL;
    }

    int pay(int i) {
        if (!isShip(i)) return BAD;
        if (now.ships.get(i).kind != 5) return finds(3);
        if (now.ships.get(i).paid) return STATE;
        return deed(now.with(now.ships.get(i).thatPaid())) ? now.ships.get(i).age(now.year) : FULL;
    }

    int tea(int i) {
        if (!isShip(i)) return BAD;
        Ship s = now.ships.get(i);
        if (s.tea >= 20) return STATE;
        return deed(now.with(s.withTea(s.tea + 5))) ? now.ships.get(i).age(now.year) : FULL;
    }

    int tide() {
        if (now.ships.isEmpty()) return STATE;
        int ground = bits(now.tooDeep());
        return deed(now.passTide()) ? ground : FULL;
    }

    int year() {
        if (now.ships.isEmpty() || now.year >= 999) return STATE;
        return deed(now.with(now.year + 1, now.left, now.shifted)) ? now.year : FULL;
    }

    int undo(int n) {
        if (!within(n, 0, before.size())) return BAD;
        int many = before.size() - n;
        if (many > 0) now = before.get(n);
        before = new ArrayList<>(before.subList(0, n));
        return many;
    }

    int keep(int k) {
        if (!within(k, 0, 2)) return BAD;
        if (now.ships.isEmpty()) return STATE;
        keptState[k] = now;
        keptBefore.set(k, new ArrayList<>(before));
        return before.size();
    }

    int on(int k) {
        if (!within(k, 0, 2)) return BAD;
        if (keptState[k] == null) return finds(1);
        now = keptState[k];
        before = new ArrayList<>(keptBefore.get(k));
        return before.size();
    }

    int berths(int r) {
        if (!within(r, 0, 5)) return BAD;
        if (now.ships.isEmpty()) return STATE;
        rows[r] = now.inside(now.year).stream().mapToInt(Ship::number).toArray();
        return rows[r].length;
    }

    int hours(int i) {
        return isShip(i) ? now.hours(i) : BAD;
    }

    int ground() {
        if (now.ships.isEmpty()) return STATE;
        List<Ship> deep = now.tooDeep();
        told = deep.stream().mapToInt(s -> s.draught - now.berth(s, now.year) - 2).sum();
        return bits(deep);
    }

    /** Tides and shifted by an order, or null. */
    private int[] follow(List<Integer> order) {
        State s = now;
        int tides = 0;
        for (int i : order) {
            int hours = s.hours(i);
            if (hours > s.tide) return null;
            if (hours > s.left) {
                tides++;
                s = s.passTide();
            }
            s = s.move(i);
        }
        return new int[] {tides, s.shifted - now.shifted};
    }

    private static void everyOrder(List<Integer> chosen, List<Integer> open, List<List<Integer>> all) {
        if (open.isEmpty()) all.add(List.copyOf(chosen));
        for (Integer i : open) {
            List<Integer> more = new ArrayList<>(chosen);
            more.add(i);
            List<Integer> fewer = new ArrayList<>(open);
            fewer.remove(i);
            everyOrder(more, fewer, all);
        }
    }

    int enter(int r) {
        if (!within(r, 0, 5)) return BAD;
        if (now.ships.isEmpty()) return STATE;
        List<List<Integer>> all = new ArrayList<>();
        everyOrder(List.of(), now.ships.stream().filter(s -> !s.in).map(Ship::number).toList(), all);
        List<Integer> best = null;
        int[] bestTold = null;
        for (List<Integer> order : all) {
            int[] one = follow(order);
            if (one != null && (best == null || Arrays.compare(one, bestTold) < 0)) {
                best = order;
                bestTold = one;
            }
        }
        if (best == null) return NONE;
        rows[r] = best.stream().mapToInt(i -> i).toArray();
        told = bestTold[1];
        return bestTold[0];
    }

    private boolean tellsShips(int r, boolean in) {
        return Arrays.stream(rows[r]).allMatch(i -> isShip(i) && now.ships.get(i).in == in)
                && Arrays.stream(rows[r]).distinct().count() == rows[r].length;
    }

    int order(int r) {
        if (!within(r, 0, 5)) return BAD;
        if (now.ships.isEmpty()) return STATE;
        if (rows[r] == null) return finds(1);
        if (!tellsShips(r, false)) return finds(3);
        int[] one = follow(Arrays.stream(rows[r]).boxed().toList());
        if (one == null) return NONE;
        told = one[1];
        return one[0];
    }

    int when(int i, int k) {
        if (!isShip(i) || !within(k, 0, 5)) return BAD;
        for (int d = 0; d <= 99; d++) {
            if (now.berth(now.ships.get(i), now.year + d) == k) return d;
        }
        return NONE;
    }

    int built(int i, int k) {
        if (!isShip(i) || !within(k, 0, 5)) return BAD;
        List<Integer> years = new ArrayList<>();
        for (int b = 0; b <= 99; b++) {
            if (now.berth(now.ships.get(i).builtIn(b), now.year) == k) years.add(b);
        }
        if (years.isEmpty()) return NONE;
        told = years.get(0);
        return years.size();
    }

    int least(int i, int k) {
        if (!isShip(i) || !within(k, 0, 5)) return BAD;
        Ship s = now.ships.get(i);
        for (int more = 0; more <= 40; more++) {
            if (now.berth(s.withTea(s.tea + more), now.year) <= k) return more;
        }
        return NONE;
    }

    int wrong(int r) {
        if (!within(r, 0, 5)) return BAD;
        if (now.ships.isEmpty()) return STATE;
        if (rows[r] == null) return finds(1);
        if (!tellsShips(r, true)) return finds(3);
        int pairs = 0;
        int set = 0;
        for (int a = 0; a < rows[r].length; a++) {
            for (int b = a + 1; b < rows[r].length; b++) {
                Ship nearer = now.ships.get(rows[r][a]);
                Ship farther = now.ships.get(rows[r][b]);
                if (now.berth(nearer, now.year) > now.berth(farther, now.year)) {
                    pairs++;
                    set |= 1 << nearer.number | 1 << farther.number;
                }
            }
        }
        told = set;
        return pairs;
    }

    private int refusalOfPairs(int i, int r) {
        if (!isShip(i) || !within(r, 0, 5)) return BAD;
        if (rows[r] == null) return finds(1);
        if (rows[r].length % 2 == 1) return finds(5);
        for (int p = 0; p < rows[r].length; p += 2) {
            if (!within(rows[r][p], 0, 999) || !within(rows[r][p + 1], 0, 2000)) return finds(3);
        }
        return 0;
    }

    private List<Integer> fitting(int i, int r) {
        List<Integer> set = new ArrayList<>();
        for (int kind = 0; kind < 6; kind++) {
            Ship s = now.ships.get(i).ofKind(kind);
            boolean fits = true;
            for (int p = 0; p < rows[r].length; p += 2) {
                fits &= s.age(rows[r][p]) == rows[r][p + 1];
            }
            if (fits) set.add(kind);
        }
        return set;
    }

    int kinds(int i, int r) {
        int refusal = refusalOfPairs(i, r);
        return refusal != 0 ? refusal : fitting(i, r).stream().mapToInt(k -> 1 << k).sum();
    }

    int test(int i, int r) {
        int refusal = refusalOfPairs(i, r);
        if (refusal != 0) return refusal;
        List<Integer> set = fitting(i, r);
        if (set.isEmpty()) return NONE;
        int best = -1;
        int least = 99;
        for (int d = 0; d <= 99; d++) {
            Map<Integer, Integer> parts = new HashMap<>();
            for (int kind : set) parts.merge(now.ships.get(i).ofKind(kind).age(now.year + d), 1, Integer::sum);
            int greatest = parts.values().stream().mapToInt(n -> n).max().getAsInt();
            if (greatest < least) {
                least = greatest;
                best = d;
            }
        }
        told = least;
        return best;
    }

    private static int play(State s, int turn, int turns) {
        if (turn == turns) {
            int sum = 0;
            List<Ship> lying = s.inside(s.year);
            for (int k = 0; k < lying.size(); k++) sum += lying.get(k).number % 2 == 1 ? k : -k;
            return sum;
        }
        int best = play(s, turn + 1, turns);
        for (Ship ship : s.ships) {
            if (ship.number % 2 == turn % 2) {
                int then = play(s.with(ship.thatIs(!ship.in)), turn + 1, turns);
                best = turn % 2 == 0 ? Math.max(best, then) : Math.min(best, then);
            }
        }
        return best;
    }

    int duel(int n) {
        if (!within(n, 0, 5)) return BAD;
        return now.ships.isEmpty() ? STATE : 100 + play(now, 0, n);
    }

    /** For every set of others that sink: the berth then, in so many ways. */
    private BigInteger[] waysByBerth(int i, int p) {
        List<Ship> others = now.ships.stream().filter(s -> s.in && s.number != i).toList();
        BigInteger[] ways = new BigInteger[6];
        Arrays.fill(ways, BigInteger.ZERO);
        for (int set = 0; set < 1 << others.size(); set++) {
            State s = now;
            BigInteger many = BigInteger.ONE;
            for (int o = 0; o < others.size(); o++) {
                boolean sinks = (set >> o & 1) == 1;
                many = many.multiply(BigInteger.valueOf(sinks ? p : 12 - p));
                if (sinks) s = s.with(others.get(o).thatIs(false));
            }
            int berth = s.berth(now.ships.get(i), now.year);
            ways[berth] = ways[berth].add(many);
        }
        return ways;
    }

    private void tell(BigInteger up, BigInteger low) {
        BigInteger common = up.gcd(low);
        over = up.divide(common);
        under = low.divide(common);
    }

    private static BigInteger sum(BigInteger[] ways) {
        return Arrays.stream(ways).reduce(BigInteger.ZERO, BigInteger::add);
    }

    int odds(int i, int k, int p) {
        if (!isShip(i) || !within(k, 0, 5) || !within(p, 0, 12)) return BAD;
        BigInteger[] ways = waysByBerth(i, p);
        tell(sum(Arrays.copyOf(ways, k + 1)), sum(ways));
        return 1;
    }

    int mid(int i, int p) {
        if (!isShip(i) || !within(p, 0, 12)) return BAD;
        BigInteger[] ways = waysByBerth(i, p);
        BigInteger all = sum(ways);
        for (int k = 0; k < 6; k++) ways[k] = ways[k].multiply(BigInteger.valueOf(k));
        tell(sum(ways), all);
        return 1;
    }

    int lots(int n, int seed) {
        if (!within(n, 1, 20) || !within(seed, 1, 2147483646)) return BAD;
        if (now.ships.isEmpty()) return STATE;
        if (before.size() + n > 40) return FULL;
        BigInteger lot = BigInteger.valueOf(seed);
        for (int d = 0; d < n; d++) {
            lot = lot.multiply(BigInteger.valueOf(48271)).mod(BigInteger.valueOf(2147483647));
            int i = lot.intValueExact() / 8 % now.ships.size();
            deed(now.hours(i) <= now.left ? now.move(i) : now.passTide());
        }
        return bits(now.inside(now.year));
    }

    int asked() {
        return told;
    }

    long upper() {
        return over.longValueExact();
    }

    long lower() {
        return under.longValueExact();
    }

    private int counted(int what) {
        return switch (what) {
            case 0 -> now.ships.size();
            case 1 -> now.year;
            case 2 -> before.size();
            case 3 -> now.left;
            case 4 -> bits(now.inside(now.year));
            case 5 -> now.shifted;
            case 6 -> now.ships.stream().mapToInt(Ship::aground).sum();
            case 7 -> (int) now.ships.stream().filter(s -> s.kind == 1 || s.kind == 4).count();
            case 8 -> (int) Arrays.stream(rows).filter(r -> r != null).count();
            case 9 -> (int) Arrays.stream(texts).filter(t -> t != null).count();
            default -> (int) Arrays.stream(keptState).filter(s -> s != null).count();
        };
    }

    int count(int what) {
        return within(what, 0, 10) ? counted(what) : BAD;
    }

    int finding() {
        return finding;
    }

    int findings(int f) {
        return within(f, 1, 5) ? findings[f] : BAD;
    }

    long digest() {
        List<Integer> all = new ArrayList<>();
        for (int what = 0; what <= 10; what++) all.add(counted(what));
        for (int i = 0; i < now.ships.size(); i++) {
            for (int what = 0; what <= 8; what++) all.add(fact(i, what));
        }
        for (int k = 0; k < 3; k++) all.add(keptState[k] == null ? -1 : keptBefore.get(k).size());
        for (int[] row : rows) {
            all.add(row == null ? -1 : row.length);
            if (row != null) for (int v : row) all.add(v);
        }
        for (byte[] text : texts) {
            all.add(text == null ? -1 : text.length);
            if (text != null) for (byte v : text) all.add((int) v);
        }
        long h = 17;
        for (int v : all) h = 31 * h + v;
        return h;
    }
}
