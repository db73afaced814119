import java.math.BigInteger;
import java.util.ArrayList;
import java.util.Arrays;
import java.util.HashMap;
import java.util.List;
import java.util.Map;
import java.util.TreeMap;
import java.util.TreeSet;
import java.util.function.IntFunction;

/**
 * The document said a second time, slowly, with the Java library and another make-up: men by name,
 * orders in maps, fractions of BigIntegers. RandomTest lays the class beside it, call by call.
 */
final class Oracle {
    static final int NONE = -1, UNKNOWN = -1000001, OUTSIDE = -1000002, NOT = -1000003, FULL = -1000004;

    /** A net as it is told. */
    static final class NetTold {
        int fields;
        final Map<Integer, TreeSet<Integer>> ways = new HashMap<>();
        int home0 = NONE;
        int home1 = NONE;
        final List<List<Integer>> men = List.of(new ArrayList<>(), new ArrayList<>());

        List<Integer> waysOf(int f) {
            return new ArrayList<>(ways.getOrDefault(f, new TreeSet<>()));
        }
    }

    /** A move that was made: the slips, and the order of each man that stood. */
    record Made(int a, int b, Map<String, Integer> orders) { }

    /** What an image keeps. */
    record Image(TreeMap<String, Integer> men, List<Made> game, long seed) { }

    record Promised(String man, int order, int move) { }

    private final StringBuilder text = new StringBuilder();
    private NetTold net = new NetTold();
    private TreeMap<String, Integer> men = new TreeMap<>();
    private TreeMap<String, Integer> target = new TreeMap<>();
    private List<Made> game = new ArrayList<>();
    private final List<int[]> log = new ArrayList<>();
    private final List<Promised> promises = new ArrayList<>();
    private final Image[] images = new Image[2];
    private int law;
    private long seed;
    private int faultPlace = NONE;
    private final Map<String, Integer> duels = new HashMap<>();

    // ---- the net

    int feed(int n, long bytes) {
        if (n < 1 || n > 8) {
            return OUTSIDE;
        }
        if (text.length() + n > 400) {
            return FULL;
        }
        byte[] all = BigInteger.valueOf(bytes).add(BigInteger.ONE.shiftLeft(72)).toByteArray();
        for (int i = all.length - n; i < all.length; i++) {
            text.append((char) (all[i] & 255));
        }
        return text.length();
    }

    /** A fault, thrown up to net(). */
    private static final class Fault extends RuntimeException {
        private static final long serialVersionUID = 1L;
        final int number;
        final int place;

        Fault(int number, int place) {
            this.number = number;
            this.place = place;
        }
    }

    /** A token: where it is, and its letters, figures or sign. */
    record Token(int place, String what) { }

    private static List<Token> tokens(String s) {
        List<Token> tokens = new ArrayList<>();
        java.util.regex.Matcher m = java.util.regex.Pattern.compile("[a-z]+|[0-9]+|[^ ]", java.util.regex.Pattern.DOTALL).matcher(s);
        while (m.find()) {
            tokens.add(new Token(m.start(), m.group()));
        }
        tokens.add(new Token(s.length(), "end"));
        return tokens;
    }

    private static int number(Token t, int least, int most) {
        if (!t.what.matches("[0-9]+")) {
            throw new Fault(1, t.place);
        }
        if (t.what.length() > 3 || Integer.parseInt(t.what) < least || Integer.parseInt(t.what) > most) {
            throw new Fault(2, t.place);
        }
        return Integer.parseInt(t.what);
    }

    private static void check(boolean good, int number, Token t) {
        if (!good) {
            throw new Fault(number, t.place);
        }
    }

    private static NetTold parse(String s) {
        NetTold n = new NetTold();
        List<Token> tokens = tokens(s);
        boolean homes = false;
        int at = 0;
        while (tokens.get(at).place < s.length()) {
            Token word = tokens.get(at++);
            check(List.of("fields", "way", "home", "man").contains(word.what), 1, word);
            check(n.fields > 0 || word.what.equals("fields"), 1, word);
            check(!word.what.equals("fields") || n.fields == 0, 3, word);
            check(!word.what.equals("home") || !homes, 3, word);
            if (word.what.equals("fields")) {
                n.fields = number(tokens.get(at++), 2, 9);
                n.home0 = 0;
                n.home1 = n.fields - 1;
            } else {
                int a = number(tokens.get(at++), 0, word.what.equals("man") ? 1 : n.fields - 1);
                Token second = tokens.get(at++);
                int b = number(second, 0, n.fields - 1);
                if (word.what.equals("way")) {
                    check(a != b && !n.waysOf(a).contains(b), 4, second);
                    check(n.waysOf(a).size() < 3 && n.waysOf(b).size() < 3, 4, second);
                    n.ways.computeIfAbsent(a, k -> new TreeSet<>()).add(b);
                    n.ways.computeIfAbsent(b, k -> new TreeSet<>()).add(a);
                } else if (word.what.equals("home")) {
                    check(a != b, 4, second);
                    homes = true;
                    n.home0 = a;
                    n.home1 = b;
                } else {
                    check(!n.men.get(0).contains(b) && !n.men.get(1).contains(b) && n.men.get(a).size() < 3, 4, second);
                    n.men.get(a).add(b);
                }
            }
            check(tokens.get(at).what.equals(";"), 1, tokens.get(at));
            at++;
        }
        return n;
    }

    int net() {
        String s = text.toString();
        text.setLength(0);
        try {
            net = parse(s);
        } catch (Fault f) {
            faultPlace = f.place;
            return -10 - f.number;
        }
        faultPlace = NONE;
        men = toldMen();
        target = toldMen();
        game = new ArrayList<>();
        log.clear();
        promises.clear();
        Arrays.fill(images, null);
        duels.clear();
        return men.size();
    }

    private TreeMap<String, Integer> toldMen() {
        TreeMap<String, Integer> m = new TreeMap<>();
        for (int s = 0; s < 2; s++) {
            for (int i = 0; i < net.men.get(s).size(); i++) {
                m.put(name(s, i), net.men.get(s).get(i));
            }
        }
        return m;
    }

    private static String name(int side, int m) {
        return side + "." + m;
    }

    private static int sideOf(String man) {
        return man.charAt(0) - '0';
    }

    int fault() {
        return faultPlace;
    }

    int told(int what) {
        int[] answers = {net.fields, alive(men, 0).size(), alive(men, 1).size(), net.home0, net.home1, game.size(),
            log.size(), promises.size(), text.length(), law, how(men)};
        return what < 0 || what >= answers.length ? OUTSIDE : answers[what];
    }

    int ways(int f) {
        return !isField(f) ? UNKNOWN : net.waysOf(f).stream().mapToInt(g -> 1 << g).sum();
    }

    private boolean isField(int f) {
        return f >= 0 && f < net.fields;
    }

    private boolean isMan(int side, int m) {
        return (side == 0 || side == 1) && m >= 0 && m < net.men.get(side).size();
    }

    int man(int side, int m) {
        return isMan(side, m) ? men.get(name(side, m)) : UNKNOWN;
    }

    int law(int v) {
        if (v < 0 || v > 2) {
            return OUTSIDE;
        }
        int was = law;
        law = v;
        return was;
    }

    // ---- slips, moves

    private static List<String> alive(Map<String, Integer> m, int side) {
        List<String> list = new ArrayList<>();
        for (Map.Entry<String, Integer> e : new TreeMap<>(m).entrySet()) {
            if (sideOf(e.getKey()) == side && e.getValue() != NONE) {
                list.add(e.getKey());
            }
        }
        return list;
    }

    private TreeSet<Integer> ordersOf(Map<String, Integer> m, String man) {
        TreeSet<Integer> orders = new TreeSet<>(List.of(0));
        for (int w = 0; w < net.waysOf(m.get(man)).size(); w++) {
            orders.add(1 + w);
        }
        for (int h = 0; h < alive(m, sideOf(man)).size() - 1; h++) {
            orders.add(4 + h);
        }
        return orders;
    }

    private List<Integer> slips(Map<String, Integer> m, int side) {
        TreeSet<Integer> all = new TreeSet<>(List.of(0));
        int weight = 1;
        for (String man : alive(m, side)) {
            TreeSet<Integer> next = new TreeSet<>();
            for (int slip : all) {
                for (int order : ordersOf(m, man)) {
                    next.add(slip + weight * order);
                }
            }
            all = next;
            weight *= 6;
        }
        return new ArrayList<>(all);
    }

    int slip(int side, int i) {
        if (side != 0 && side != 1) {
            return UNKNOWN;
        }
        List<Integer> all = slips(men, side);
        return i == NONE ? all.size() : i < 0 || i >= all.size() ? NONE : all.get(i);
    }

    private Map<String, Integer> orders(Map<String, Integer> m, int a, int b) {
        Map<String, Integer> orders = new TreeMap<>();
        int[] slips = {Math.max(a, 0), Math.max(b, 0)};
        for (int side = 0; side < 2; side++) {
            int nth = 0;
            for (String man : alive(m, side)) {
                orders.put(man, slips[side] / (int) Math.pow(6, nth++) % 6);
            }
        }
        return orders;
    }

    /** Where all stand behind a pair of slips. */
    private TreeMap<String, Integer> worked(Map<String, Integer> m, int a, int b, int byLaw) {
        Map<String, Integer> orders = orders(m, a, b);
        Map<String, Integer> goal = new TreeMap<>();
        Map<String, Integer> strength = new TreeMap<>();
        for (String man : orders.keySet()) {
            int order = orders.get(man);
            goal.put(man, order >= 1 && order <= 3 ? net.waysOf(m.get(man)).get(order - 1) : m.get(man));
            strength.put(man, 1);
        }
        for (String man : orders.keySet()) {
            if (orders.get(man) >= 4) {
                List<String> others = alive(m, sideOf(man));
                others.remove(man);
                String mate = others.get(orders.get(man) - 4);
                if (m.get(man).equals(goal.get(mate)) || net.waysOf(m.get(man)).contains(goal.get(mate))) {
                    strength.merge(mate, 1, Integer::sum);
                }
            }
        }
        TreeSet<String> back = new TreeSet<>();
        TreeSet<String> fall = new TreeSet<>();
        for (String x : alive(m, 0)) {
            for (String y : alive(m, 1)) {
                if (goal.get(x).equals(m.get(y)) && goal.get(y).equals(m.get(x))) {
                    if (byLaw == 1 && strength.get(x) <= strength.get(y)) {
                        back.add(x);
                    }
                    if (byLaw == 1 && strength.get(y) <= strength.get(x)) {
                        back.add(y);
                    }
                    if (byLaw == 2) {
                        fall.addAll(List.of(x, y));
                    }
                }
            }
        }
        apply(m, goal, strength, back, fall);
        do {
            back.clear();
            fall.clear();
            for (int f = 0; f < net.fields; f++) {
                look(f, m, goal, strength, back, fall);
            }
        } while (apply(m, goal, strength, back, fall));
        TreeMap<String, Integer> end = new TreeMap<>();
        for (String man : m.keySet()) {
            end.put(man, goal.getOrDefault(man, NONE));
        }
        return end;
    }

    private void look(int f, Map<String, Integer> m, Map<String, Integer> goal, Map<String, Integer> strength,
            TreeSet<String> back, TreeSet<String> fall) {
        List<String> comers = goal.keySet().stream().filter(k -> goal.get(k) == f).toList();
        if (comers.size() < 2) {
            return;
        }
        String best = null;
        for (String k : comers) {
            if (comers.stream().allMatch(o -> o.equals(k) || strength.get(o) < strength.get(k))) {
                best = k;
            }
        }
        for (String k : comers) {
            boolean own = m.get(k) == f;
            if (best == null) {
                if (!own) {
                    back.add(k);
                }
            } else if (!k.equals(best)) {
                if (!own) {
                    back.add(k);
                } else if (sideOf(k) != sideOf(best)) {
                    fall.add(k);
                } else {
                    back.add(best);
                }
            }
        }
    }

    private static boolean apply(Map<String, Integer> m, Map<String, Integer> goal, Map<String, Integer> strength,
            TreeSet<String> back, TreeSet<String> fall) {
        for (String k : back) {
            goal.put(k, m.get(k));
            strength.put(k, 1);
        }
        for (String k : fall) {
            goal.remove(k);
        }
        return !back.isEmpty() || !fall.isEmpty();
    }

    private int how(Map<String, Integer> m) {
        boolean won0 = alive(m, 1).isEmpty();
        boolean won1 = alive(m, 0).isEmpty();
        for (String k : m.keySet()) {
            won0 |= sideOf(k) == 0 && m.get(k) != NONE && m.get(k) == net.home1;
            won1 |= sideOf(k) == 1 && m.get(k) != NONE && m.get(k) == net.home0;
        }
        return won0 && won1 ? 3 : won0 ? 1 : won1 ? 2 : 0;
    }

    private boolean may(Map<String, Integer> m, int side, int slip) {
        return slips(m, side).contains(slip);
    }

    private boolean mayBoth(Map<String, Integer> m, int a, int b) {
        return (a == NONE || may(m, 0, a)) && (b == NONE || may(m, 1, b));
    }

    private void make(int a, int b) {
        game.add(new Made(Math.max(a, 0), Math.max(b, 0), orders(men, a, b)));
        men = worked(men, a, b, law);
    }

    int move(int a, int b) {
        if (!mayBoth(men, a, b)) {
            return UNKNOWN;
        }
        if (how(men) != 0) {
            return NOT;
        }
        if (game.size() == 60) {
            return FULL;
        }
        make(a, b);
        return how(men);
    }

    private int draw(int n) {
        seed = BigInteger.valueOf(seed).multiply(BigInteger.valueOf(1103515245)).add(BigInteger.valueOf(12345))
            .mod(BigInteger.TWO.pow(31)).longValue();
        return (int) (seed / 65536 % n);
    }

    int drift(int n) {
        if (n < 1 || n > 60) {
            return OUTSIDE;
        }
        if (how(men) != 0) {
            return NOT;
        }
        for (int i = 0; i < n; i++) {
            if (how(men) != 0) {
                break;
            }
            if (game.size() == 60) {
                return FULL;
            }
            List<Integer> first = slips(men, 0);
            List<Integer> second = slips(men, 1);
            int a = first.get(draw(first.size()));
            int b = second.get(draw(second.size()));
            make(a, b);
        }
        return how(men);
    }

    int begin() {
        int had = game.size();
        game = new ArrayList<>();
        men = toldMen();
        return had;
    }

    int tried(int a, int b, int what) {
        boolean aMan = what >= 1 && what <= 6;
        if (!mayBoth(men, a, b) || (aMan && !isMan((what - 1) / 3, (what - 1) % 3))) {
            return UNKNOWN;
        }
        if (what < 0 || what > 6) {
            return OUTSIDE;
        }
        if (how(men) != 0) {
            return NOT;
        }
        Map<String, Integer> end = worked(men, a, b, law);
        return what == 0 ? how(end) : end.get(name((what - 1) / 3, (what - 1) % 3));
    }

    // ---- tables, lots

    private int pay(Map<String, Integer> end) {
        return switch (how(end)) {
            case 1 -> 1000;
            case 2 -> 0;
            case 3 -> 500;
            default -> 500 + 100 * alive(end, 0).size() - 100 * alive(end, 1).size();
        };
    }

    int pays(int a, int b) {
        return !mayBoth(men, a, b) ? UNKNOWN : how(men) != 0 ? NOT : pay(worked(men, a, b, law));
    }

    private boolean noTable() {
        return how(men) != 0 || alive(men, 0).size() > 2 || alive(men, 1).size() > 2;
    }

    private int[][] table() {
        List<Integer> first = slips(men, 0);
        List<Integer> second = slips(men, 1);
        int[][] t = new int[first.size()][second.size()];
        for (int i = 0; i < t.length; i++) {
            for (int j = 0; j < t[i].length; j++) {
                t[i][j] = pay(worked(men, first.get(i), second.get(j), law));
            }
        }
        return t;
    }

    /** The table as a side sees it: its own slips are the rows, and much is good. */
    private int[][] seenBy(int side) {
        int[][] t = table();
        if (side == 0) {
            return t;
        }
        int[][] turned = new int[t[0].length][t.length];
        for (int i = 0; i < t.length; i++) {
            for (int j = 0; j < t[i].length; j++) {
                turned[j][i] = -t[i][j];
            }
        }
        return turned;
    }

    private static int firstOfMost(int many, IntFunction<Integer> worth) {
        int best = 0;
        for (int i = 1; i < many; i++) {
            if (worth.apply(i) > worth.apply(best)) {
                best = i;
            }
        }
        return best;
    }

    int safe(int side, int what) {
        if (side != 0 && side != 1) {
            return UNKNOWN;
        }
        if (what != 0 && what != 1) {
            return OUTSIDE;
        }
        if (noTable()) {
            return NOT;
        }
        int[][] t = seenBy(side);
        int best = firstOfMost(t.length, i -> Arrays.stream(t[i]).min().getAsInt());
        return what == 0 ? slips(men, side).get(best) : Math.abs(Arrays.stream(t[best]).min().getAsInt());
    }

    int answer(int side, int slip) {
        if ((side != 0 && side != 1) || !may(men, 1 - side, slip)) {
            return UNKNOWN;
        }
        if (noTable()) {
            return NOT;
        }
        int[][] t = seenBy(side);
        int theirs = slips(men, 1 - side).indexOf(slip);
        return slips(men, side).get(firstOfMost(t.length, i -> t[i][theirs]));
    }

    /** What both write in r rounds: the rows' places, the columns' places. */
    private int[][] rounds(int[][] t, int r) {
        int[][] wrote = new int[2][r];
        for (int k = 0; k < r; k++) {
            int upTo = k;
            wrote[0][k] = firstOfMost(t.length, i -> {
                int sum = 0;
                for (int q = 0; q < upTo; q++) {
                    sum += t[i][wrote[1][q]];
                }
                return sum;
            });
            wrote[1][k] = firstOfMost(t[0].length, j -> {
                int sum = 0;
                for (int q = 0; q < upTo; q++) {
                    sum -= t[wrote[0][q]][j];
                }
                return sum;
            });
        }
        return wrote;
    }

    int bounds(int r, int what) {
        if (r < 1 || r > 200 || (what != 0 && what != 1)) {
            return OUTSIDE;
        }
        if (noTable()) {
            return NOT;
        }
        int[][] t = table();
        int[][] wrote = rounds(t, r);
        long bound = what == 0 ? Long.MAX_VALUE : Long.MIN_VALUE;
        for (int k = 0; k < (what == 0 ? t[0].length : t.length); k++) {
            long sum = 0;
            for (int q = 0; q < r; q++) {
                sum += what == 0 ? t[wrote[0][q]][k] : t[k][wrote[1][q]];
            }
            bound = what == 0 ? Math.min(bound, sum) : Math.max(bound, sum);
        }
        return (int) (bound / r);
    }

    int share(int side, int slip, int r) {
        if ((side != 0 && side != 1) || !may(men, side, slip)) {
            return UNKNOWN;
        }
        if (r < 1 || r > 200) {
            return OUTSIDE;
        }
        if (noTable()) {
            return NOT;
        }
        int place = slips(men, side).indexOf(slip);
        return (int) Arrays.stream(rounds(table(), r)[side]).filter(i -> i == place).count();
    }

    // ---- duels

    /** A fraction in lowest terms, its divisor above 0. */
    static final class Fraction {
        static final Fraction ZERO = of(0);
        final BigInteger up;
        final BigInteger down;

        Fraction(BigInteger up, BigInteger down) {
            BigInteger g = up.gcd(down).multiply(BigInteger.valueOf(down.signum()));
            this.up = up.divide(g);
            this.down = down.divide(g);
        }

        static Fraction of(long v) {
            return new Fraction(BigInteger.valueOf(v), BigInteger.ONE);
        }

        Fraction plus(Fraction o) {
            return new Fraction(up.multiply(o.down).add(o.up.multiply(down)), down.multiply(o.down));
        }

        Fraction times(Fraction o) {
            return new Fraction(up.multiply(o.up), down.multiply(o.down));
        }

        Fraction by(Fraction o) {
            return new Fraction(up.multiply(o.down), down.multiply(o.up));
        }

        int compare(Fraction o) {
            return up.multiply(o.down).compareTo(o.up.multiply(down));
        }

        int cut() {
            return up.divide(down).intValue();
        }
    }

    /**
     * The shares on the rows of m by which all its columns are worth the same, and that worth, last:
     * elimination; null where there is no way, or more than one.
     */
    private static Fraction[] evenShares(int[][] m) {
        int size = m.length;
        Fraction[][] e = new Fraction[size + 1][size + 2];
        for (int j = 0; j <= size; j++) {
            for (int i = 0; i < size; i++) {
                e[j][i] = Fraction.of(j == size ? 1 : m[i][j]);
            }
            e[j][size] = Fraction.of(j == size ? 0 : -1);
            e[j][size + 1] = Fraction.of(j == size ? 1 : 0);
        }
        for (int c = 0; c <= size; c++) {
            int pivot = c;
            while (pivot <= size && e[pivot][c].up.signum() == 0) {
                pivot++;
            }
            if (pivot > size) {
                return null;
            }
            Fraction[] row = e[pivot];
            e[pivot] = e[c];
            e[c] = row;
            for (int r = 0; r <= size; r++) {
                if (r != c) {
                    Fraction less = e[r][c].by(row[c]).times(Fraction.of(-1));
                    for (int k = c; k < size + 2; k++) {
                        e[r][k] = e[r][k].plus(row[k].times(less));
                    }
                }
            }
        }
        Fraction[] shares = new Fraction[size + 1];
        for (int i = 0; i <= size; i++) {
            shares[i] = e[i][size + 1].by(e[i][i]);
        }
        return shares;
    }

    private static List<Integer> bits(int set) {
        List<Integer> list = new ArrayList<>();
        for (int k = 0; k < 31; k++) {
            if ((set >> k & 1) == 1) {
                list.add(k);
            }
        }
        return list;
    }

    private static Fraction[] spread(List<Integer> set, Fraction[] shares, int many) {
        Fraction[] all = new Fraction[many];
        Arrays.fill(all, Fraction.ZERO);
        for (int k = 0; k < set.size(); k++) {
            all[set.get(k)] = shares[k];
        }
        return all;
    }

    /** The lots of both sides and the value of a game, as the first pair of sets that stands tells them. */
    static Fraction[][] solve(int[][] t) {
        int rows = t.length;
        int cols = t[0].length;
        for (int size = 1; size <= Math.min(rows, cols); size++) {
            for (int s0 = 1; s0 < 1 << rows; s0++) {
                for (int s1 = 1; s1 < 1 << cols; s1++) {
                    if (Integer.bitCount(s0) == size && Integer.bitCount(s1) == size) {
                        Fraction[][] found = solveOn(t, bits(s0), bits(s1));
                        if (found != null) {
                            return found;
                        }
                    }
                }
            }
        }
        throw new IllegalStateException("a game without a solution");
    }

    private static Fraction[][] solveOn(int[][] t, List<Integer> s0, List<Integer> s1) {
        int size = s0.size();
        int[][] m = new int[size][size];
        int[][] turned = new int[size][size];
        for (int i = 0; i < size; i++) {
            for (int j = 0; j < size; j++) {
                m[i][j] = t[s0.get(i)][s1.get(j)];
                turned[j][i] = m[i][j];
            }
        }
        Fraction[] x = evenShares(m);
        Fraction[] y = evenShares(turned);
        if (x == null || y == null) {
            return null;
        }
        Fraction value = x[size];
        for (int k = 0; k < size; k++) {
            if (x[k].up.signum() < 0 || y[k].up.signum() < 0) {
                return null;
            }
        }
        Fraction[] lot0 = spread(s0, x, t.length);
        Fraction[] lot1 = spread(s1, y, t[0].length);
        for (int i = 0; i < t.length; i++) {
            Fraction sum = Fraction.ZERO;
            for (int j = 0; j < t[0].length; j++) {
                sum = sum.plus(lot1[j].times(Fraction.of(t[i][j])));
            }
            if (sum.compare(value) > 0) {
                return null;
            }
        }
        for (int j = 0; j < t[0].length; j++) {
            Fraction sum = Fraction.ZERO;
            for (int i = 0; i < t.length; i++) {
                sum = sum.plus(lot0[i].times(Fraction.of(t[i][j])));
            }
            if (sum.compare(value) < 0) {
                return null;
            }
        }
        return new Fraction[][] {lot0, lot1, {value}};
    }

    private static TreeMap<String, Integer> duellists(int a, int b) {
        return new TreeMap<>(Map.of("0.0", a, "1.0", b));
    }

    private int[][] duelTable(int a, int b, int n) {
        int[][] t = new int[1 + net.waysOf(a).size()][1 + net.waysOf(b).size()];
        for (int i = 0; i < t.length; i++) {
            for (int j = 0; j < t[i].length; j++) {
                Map<String, Integer> end = worked(duellists(a, b), i, j, law);
                t[i][j] = how(end) != 0 ? pay(end) : value(end.get("0.0"), end.get("1.0"), n - 1);
            }
        }
        return t;
    }

    private int value(int a, int b, int n) {
        if (how(duellists(a, b)) != 0) {
            return pay(duellists(a, b));
        }
        if (n == 0) {
            return 500;
        }
        String key = law + " " + a + " " + b + " " + n;
        Integer known = duels.get(key);
        if (known == null) {
            known = solve(duelTable(a, b, n))[2][0].cut();
            duels.put(key, known);
        }
        return known;
    }

    int duel(int a, int b, int n) {
        if (!isField(a) || !isField(b) || a == b) {
            return UNKNOWN;
        }
        return n < 0 || n > 12 ? OUTSIDE : value(a, b, n);
    }

    int lot(int a, int b, int n, int side, int order) {
        if (!isField(a) || !isField(b) || a == b || (side != 0 && side != 1)) {
            return UNKNOWN;
        }
        if (n < 1 || n > 12 || order < 0 || order > 3) {
            return OUTSIDE;
        }
        if (how(duellists(a, b)) != 0) {
            return NOT;
        }
        Fraction[] lot = solve(duelTable(a, b, n))[side];
        return order >= lot.length ? 0 : lot[order].times(Fraction.of(1000000)).cut();
    }

    // ---- results, games

    int stand(int side, int m, int f) {
        return !isMan(side, m) || (f != NONE && !isField(f)) ? UNKNOWN : target.put(name(side, m), f);
    }

    int written(int i, int what) {
        if (what != 0 && what != 1) {
            return OUTSIDE;
        }
        if (noTable()) {
            return NOT;
        }
        List<int[]> pairs = new ArrayList<>();
        for (int a : slips(men, 0)) {
            for (int b : slips(men, 1)) {
                if (worked(men, a, b, law).equals(target)) {
                    pairs.add(new int[] {a, b});
                }
            }
        }
        return i == NONE ? Math.min(pairs.size(), 999999) : i < 0 || i >= pairs.size() ? NONE : pairs.get(i)[what];
    }

    int game(int i, int what) {
        if (what != 0 && what != 1) {
            return OUTSIDE;
        }
        return i < 0 || i >= game.size() ? NONE : what == 0 ? game.get(i).a : game.get(i).b;
    }

    int log(int a, int b) {
        if (a < -1 || a > 215 || b < -1 || b > 215) {
            return OUTSIDE;
        }
        if (log.size() == 60) {
            return FULL;
        }
        log.add(new int[] {a, b});
        return log.size();
    }

    int clear() {
        int had = log.size();
        log.clear();
        return had;
    }

    int judge() {
        Map<String, Integer> m = toldMen();
        for (int i = 0; i < log.size(); i++) {
            if (how(m) != 0 || !mayBoth(m, log.get(i)[0], log.get(i)[1])) {
                return i;
            }
            m = worked(m, log.get(i)[0], log.get(i)[1], law);
        }
        return NONE;
    }

    int replayed(int side, int man) {
        if (!isMan(side, man)) {
            return UNKNOWN;
        }
        int wrong = judge();
        Map<String, Integer> m = toldMen();
        for (int i = 0; i < (wrong == NONE ? log.size() : wrong); i++) {
            m = worked(m, log.get(i)[0], log.get(i)[1], law);
        }
        return m.get(name(side, man));
    }

    int promise(int side, int m, int order, int move) {
        if (!isMan(side, m)) {
            return UNKNOWN;
        }
        if (order < 0 || order > 5 || move < 0 || move > 59) {
            return OUTSIDE;
        }
        if (promises.size() == 8) {
            return FULL;
        }
        promises.add(new Promised(name(side, m), order, move));
        return promises.size() - 1;
    }

    int kept(int i) {
        if (i < 0 || i >= promises.size()) {
            return UNKNOWN;
        }
        Promised p = promises.get(i);
        if (p.move >= game.size()) {
            return 0;
        }
        return game.get(p.move).orders.getOrDefault(p.man, NONE) == p.order ? 1 : 2;
    }

    // ---- draws, images

    int seed(int v) {
        if (v < 0) {
            return OUTSIDE;
        }
        int was = (int) seed;
        seed = v;
        return was;
    }

    int keep(int i) {
        if (i != 0 && i != 1) {
            return UNKNOWN;
        }
        images[i] = new Image(new TreeMap<>(men), new ArrayList<>(game), seed);
        return 1;
    }

    int goBack(int i) {
        if (i != 0 && i != 1) {
            return UNKNOWN;
        }
        if (images[i] == null) {
            return NOT;
        }
        men = new TreeMap<>(images[i].men);
        game = new ArrayList<>(images[i].game);
        seed = images[i].seed;
        return 1;
    }
}
