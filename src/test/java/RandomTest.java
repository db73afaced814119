import java.util.ArrayList;
import java.util.List;

/** Lays the class beside the oracle, on nets and calls that a told row of numbers picks. */
public final class RandomTest {
    private static final int RUNS = 400;
    private static final int TEXTS = 3000;
    /** An object answers for 512 calls; the dearest asking below takes some twenty. */
    private static final int CALLS = 490;

    private final Due due = new Due("RandomTest");
    private long state = 20261119;
    /** How many calls the object in hand has had. */
    private int calls;

    public static void main(String[] args) {
        RandomTest test = new RandomTest();
        test.faults();
        test.runs();
        test.due.end();
    }

    private int pick(int n) {
        state = state * 6364136223846793005L + 1442695040888963407L;
        return (int) ((state >>> 33) % n);
    }

    private int from(int least, int most) {
        return least + pick(most - least + 1);
    }

    // ---- texts

    private void faults() {
        BothWrite x = new BothWrite();
        Oracle o = new Oracle();
        for (int t = 0; t < TEXTS; t++) {
            String text = pick(3) == 0 ? anyWords() : pick(6) == 0 ? netText() : spoilt(netText());
            if (pick(5) == 0 || calls > 350) {
                x = new BothWrite();
                o = new Oracle();
                calls = 0;
            }
            feedBoth(x, o, text);
            calls += 22;
            due.is("net() of '" + text + "'", x.net(), o.net());
            due.is("fault() of '" + text + "'", x.fault(), o.fault());
            for (int what = 0; what <= 10; what++) {
                due.is("told(" + what + ") of '" + text + "'", x.told(what), o.told(what));
            }
            for (int f = 0; f < 9; f++) {
                due.is("ways(" + f + ") of '" + text + "'", x.ways(f), o.ways(f));
            }
        }
    }

    private void feedBoth(BothWrite x, Oracle o, String text) {
        int at = 0;
        while (at < text.length()) {
            int n = Math.min(from(1, 8), text.length() - at);
            long bytes = pick(2) == 0 ? 0 : state;
            for (int i = 0; i < n; i++) {
                bytes = bytes << 8 | text.charAt(at + i);
            }
            due.is("feed", x.feed(n, bytes), o.feed(n, bytes));
            calls++;
            at += n;
        }
    }

    private String blanks() {
        return "  ".substring(0, pick(5) == 0 ? from(1, 2) : 0);
    }

    private String clause(String word, int... numbers) {
        StringBuilder s = new StringBuilder(blanks()).append(word).append(blanks());
        for (int i = 0; i < numbers.length; i++) {
            s.append(i > 0 ? " " : "").append(blanks()).append(pick(12) == 0 ? "0" : "").append(numbers[i]);
        }
        return s.append(blanks()).append(';').append(blanks()).toString();
    }

    private String netText() {
        int fields = pick(4) == 0 ? from(2, 4) : from(4, 9);
        List<String> clauses = new ArrayList<>();
        List<List<Integer>> ways = new ArrayList<>();
        for (int f = 0; f < fields; f++) {
            ways.add(new ArrayList<>());
        }
        int tries = pick(5) == 0 ? fields : 4 * fields;
        for (int t = 0; t < tries; t++) {
            int a = pick(fields);
            int b = pick(fields);
            if (a != b && !ways.get(a).contains(b) && ways.get(a).size() < 3 && ways.get(b).size() < 3) {
                ways.get(a).add(b);
                ways.get(b).add(a);
                clauses.add(clause("way", a, b));
            }
        }
        if (pick(2) == 0) {
            int a = pick(fields);
            clauses.add(pick(clauses.size() + 1), clause("home", a, (a + from(1, fields - 1)) % fields));
        }
        List<Integer> taken = new ArrayList<>();
        int most = pick(3) == 0 ? 3 : 2;
        int[] men = {0, 0};
        for (int t = 0; t < 12; t++) {
            int side = pick(2);
            int f = pick(fields);
            if (!taken.contains(f) && men[side] < most && taken.size() < fields) {
                taken.add(f);
                men[side]++;
                clauses.add(pick(clauses.size() + 1), clause("man", side, f));
            }
        }
        return clause("fields", fields) + String.join("", clauses);
    }

    private String spoilt(String text) {
        StringBuilder s = new StringBuilder(text);
        String signs = "0123456789;; abfieldswayhomen\tZ\u00e9";
        for (int k = from(1, 2); k > 0; k--) {
            int at = pick(s.length());
            switch (pick(3)) {
                case 0 -> s.deleteCharAt(at);
                case 1 -> s.insert(at, signs.charAt(pick(signs.length())));
                default -> s.setCharAt(at, signs.charAt(pick(signs.length())));
            }
        }
        return s.substring(0, Math.min(s.length(), pick(4) == 0 ? pick(s.length() + 1) : 400));
    }

    private String anyWords() {
        String[] words = {"fields", "way", "home", "man", ";", ";", ";", "0", "1", "2", "3", "4", "9", "10", "1000", "x", "fieldsway"};
        StringBuilder s = new StringBuilder(pick(4) == 0 ? "" : clause("fields", from(2, 5)));
        for (int k = from(0, 20); k > 0; k--) {
            if (pick(3) == 0) {
                s.append(words[pick(words.length)]).append(pick(2) == 0 ? " " : "");
            } else {
                String word = words[from(1, 3)];
                s.append(clause(word, pick(3), pick(5)));
            }
        }
        return s.substring(0, Math.min(s.length(), 400));
    }

    // ---- runs of calls

    private void runs() {
        for (int r = 0; r < RUNS; r++) {
            BothWrite x = new BothWrite();
            Oracle o = new Oracle();
            String text = netText();
            feedBoth(x, o, text);
            due.is("net()", x.net(), o.net());
            calls = 100;
            // tables and duels are dear for the oracle, so most runs leave some of them out
            int dear = pick(8);
            while (calls < CALLS) {
                if (pick(120) == 0) {
                    text = pick(3) == 0 ? spoilt(netText()) : netText();
                    feedBoth(x, o, text);
                    due.is("net() of '" + text + "'", x.net(), o.net());
                }
                ask("run " + r + " about call " + calls + " on '" + text + "': ", x, o, dear);
            }
        }
    }

    /** A number that mostly is in its bounds. */
    private int near(int least, int most) {
        int k = pick(40);
        return k == 0 ? least - 1 : k == 1 ? most + 1 : k == 2 ? Integer.MIN_VALUE : k == 3 ? Integer.MAX_VALUE : from(least, most);
    }

    private int slipFor(Oracle o, int side) {
        int k = pick(30);
        if (k < 2) {
            return k == 0 ? Oracle.NONE : near(-2, 216);
        }
        return o.slip(side, pick(o.slip(side, Oracle.NONE)));
    }

    private void ask(String where, BothWrite x, Oracle o, int dear) {
        int a = slipFor(o, 0);
        int b = slipFor(o, 1);
        int side = near(0, 1);
        int m = near(0, 2);
        int f = near(0, 8);
        int v = near(0, 2);
        int what = near(0, 6);
        calls++;
        switch (pick(34)) {
            case 0 -> due.is(where + "told " + what, x.told(what + v), o.told(what + v));
            case 1 -> due.is(where + "ways " + f, x.ways(f), o.ways(f));
            case 2 -> due.is(where + "man", x.man(side, m), o.man(side, m));
            case 3 -> due.is(where + "law " + v, x.law(v), o.law(v));
            case 4 -> {
                int i = near(-1, 30);
                due.is(where + "slip " + side + " " + i, x.slip(side, i), o.slip(side, i));
            }
            case 5, 6, 7 -> {
                due.is(where + "move " + a + " " + b, x.move(a, b), o.move(a, b));
                askMen(where, x, o);
            }
            case 8 -> {
                int n = pick(3) == 0 ? near(1, 60) : near(1, 3);
                due.is(where + "drift " + n, x.drift(n), o.drift(n));
                askMen(where, x, o);
            }
            case 9, 10 -> due.is(where + "begin", x.begin(), o.begin());
            case 11, 12 -> due.is(where + "tried " + a + " " + b + " " + what, x.tried(a, b, what), o.tried(a, b, what));
            case 13 -> due.is(where + "pays " + a + " " + b, x.pays(a, b), o.pays(a, b));
            case 14, 15, 16, 17 -> askTable(where, x, o, dear, side, side == 0 ? a : b, side == 0 ? b : a);
            case 18, 19 -> askDuel(where, x, o, dear, side);
            case 20 -> {
                int g = pick(6) == 0 ? Oracle.NONE : f;
                due.is(where + "stand " + g, x.stand(side, m, g), o.stand(side, m, g));
            }
            default -> askGame(where, x, o, side, m, a, b);
        }
    }

    private void askMen(String where, BothWrite x, Oracle o) {
        calls += 6;
        for (int k = 0; k < 6; k++) {
            due.is(where + "man " + k + " behind it", x.man(k / 3, k % 3), o.man(k / 3, k % 3));
        }
    }

    private void askTable(String where, BothWrite x, Oracle o, int dear, int side, int mine, int theirs) {
        if (dear > 3 && pick(10) > 0) {
            return;
        }
        int what = near(0, 1);
        int r = pick(4) == 0 ? near(1, 200) : near(1, 12);
        switch (pick(5)) {
            case 0 -> due.is(where + "safe " + side + " " + what, x.safe(side, what), o.safe(side, what));
            case 1 -> due.is(where + "answer " + side + " " + theirs, x.answer(side, theirs), o.answer(side, theirs));
            case 2 -> due.is(where + "bounds " + r + " " + what, x.bounds(r, what), o.bounds(r, what));
            case 3 -> due.is(where + "share " + side + " " + mine + " " + r, x.share(side, mine, r), o.share(side, mine, r));
            default -> askWritten(where, x, o, what);
        }
    }

    /** Tells mostly a standing that can be come to, then asks by which slips. */
    private void askWritten(String where, BothWrite x, Oracle o, int what) {
        int a = slipFor(o, 0);
        int b = slipFor(o, 1);
        calls += 10;
        for (int k = 0; k < 6; k++) {
            int f = o.tried(a, b, k + 1);
            if (f >= Oracle.NONE && pick(20) > 0) {
                due.is(where + "stand", x.stand(k / 3, k % 3, f), o.stand(k / 3, k % 3, f));
            }
        }
        int many = o.written(Oracle.NONE, 0);
        due.is(where + "written -1 " + what, x.written(-1, what), o.written(-1, what));
        for (int k = 0; k < 3; k++) {
            int i = near(0, Math.max(many, 0));
            due.is(where + "written " + i + " " + what, x.written(i, what), o.written(i, what));
        }
    }

    private void askDuel(String where, BothWrite x, Oracle o, int dear, int side) {
        int f = pick(Math.max(1, o.told(0)));
        int g = pick(20) == 0 ? near(0, 8) : pick(Math.max(1, o.told(0)));
        int n = dear == 0 ? near(0, 12) : near(0, 3);
        n = dear != 0 && n > 3 && n <= 12 ? 2 : n;
        int order = near(0, 3);
        if (pick(2) == 0) {
            due.is(where + "duel " + f + " " + g + " " + n, x.duel(f, g, n), o.duel(f, g, n));
        } else {
            due.is(where + "lot " + f + " " + g + " " + n + " " + side + " " + order, x.lot(f, g, n, side, order), o.lot(f, g, n, side, order));
        }
    }

    private void askGame(String where, BothWrite x, Oracle o, int side, int m, int a, int b) {
        int what = near(0, 1);
        int i = near(0, Math.max(1, o.told(5)));
        int order = near(0, 5);
        int move = pick(4) == 0 ? near(0, 59) : near(0, 5);
        switch (pick(14)) {
            case 0 -> due.is(where + "game " + i, x.game(i, what), o.game(i, what));
            case 1 -> {
                int c = pick(10) == 0 ? near(-1, 215) : a;
                due.is(where + "log " + c + " " + b, x.log(c, b), o.log(c, b));
            }
            case 2 -> {
                if (pick(4) == 0) {
                    due.is(where + "clear", x.clear(), o.clear());
                }
            }
            case 3, 4 -> due.is(where + "judge", x.judge(), o.judge());
            case 5 -> due.is(where + "replayed", x.replayed(side, m), o.replayed(side, m));
            case 6 -> due.is(where + "promise", x.promise(side, m, order, move), o.promise(side, m, order, move));
            case 7, 8 -> due.is(where + "kept " + i, x.kept(i % 10), o.kept(i % 10));
            case 9 -> {
                int v = near(0, 1000000);
                due.is(where + "seed", x.seed(v), o.seed(v));
            }
            case 10 -> due.is(where + "keep", x.keep(what), o.keep(what));
            case 11 -> due.is(where + "goBack", x.goBack(what), o.goBack(what));
            default -> due.is(where + "written", x.written(i, what), o.written(i, what));
        }
    }
}
