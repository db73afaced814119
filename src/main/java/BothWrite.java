/** Two sides with a few men on a net of fields write slips unseen; all orders are made at once. */
public final class BothWrite {
    public static final int NONE = -1, UNKNOWN = -1000001, OUTSIDE = -1000002, NOT = -1000003, FULL = -1000004;

    private static final int SIDES = 2;
    private static final int SIDE_MEN = 3;
    private static final int ALL_MEN = 6;
    private static final int MOST_FIELDS = 9;
    private static final int MOST_WAYS = 3;
    private static final int ORDERS = 6;
    private static final int HELP_FIRST = 4;
    private static final int TOP_SLIP = 215;
    private static final int MOST_MOVES = 60;
    private static final int MOST_BYTES = 400;
    private static final int MOST_PROMISES = 8;
    private static final int TABLE_MEN = 2;
    /** Two men have at most five orders each: to stay, three ways, one help. */
    private static final int TABLE_SLIPS = 25;
    private static final int MOST_ROUNDS = 200;
    private static final int DUEL_MOVES = 12;
    private static final int DUEL_ORDERS = 4;
    private static final int LAWS = 3;
    private static final int MILLION = 1000000;
    private static final int EVEN = 500;
    private static final int GOES_ON = 0;
    private static final int DRAWN = 3;

    private final Net theNet;
    private final Reader theReader;
    private final Slips theSlips;
    private final Work theWork;
    private final Table theTable;
    private final Duels theDuels;
    private final Game theGame;
    private final Game image0;
    private final Game image1;
    private final Log theLog;
    private final Promises thePromises;
    private final int[] target;
    private int theLaw;

    public BothWrite() {
        theNet = new Net();
        theReader = new Reader();
        theSlips = new Slips(theNet);
        theWork = new Work(theNet);
        theTable = new Table(theNet, theSlips, theWork);
        theDuels = new Duels(theNet, theWork);
        theGame = new Game();
        image0 = new Game();
        image1 = new Game();
        theLog = new Log();
        thePromises = new Promises();
        target = new int[ALL_MEN];
        fillRow(target, NONE);
        theLaw = 0;
    }

    // ---- the net

    public int feed(int n, long bytes) {
        if (n < 1 || n > 8) {
            return OUTSIDE;
        }
        if (theReader.length + n > MOST_BYTES) {
            return FULL;
        }
        theReader.take(n, bytes);
        return theReader.length;
    }

    public int net() {
        theReader.read();
        if (theReader.faultNumber != 0) {
            return -10 - theReader.faultNumber;
        }
        theNet.become(theReader.draft);
        theGame.toStart(theNet.start);
        copyRow(theNet.start, target);
        theLog.many = 0;
        thePromises.many = 0;
        image0.isImage = false;
        image1.isImage = false;
        theTable.forget();
        theDuels.forget();
        return theNet.menOf[0] + theNet.menOf[1];
    }

    public int fault() {
        return theReader.faultPlace;
    }

    public int told(int what) {
        switch (what) {
            case 0: return theNet.fields;
            case 1: return standing(theGame.men, 0);
            case 2: return standing(theGame.men, 1);
            case 3: return theNet.home[0];
            case 4: return theNet.home[1];
            case 5: return theGame.moves;
            case 6: return theLog.many;
            case 7: return thePromises.many;
            case 8: return theReader.length;
            case 9: return theLaw;
            case 10: return theNet.how(theGame.men);
            default: return OUTSIDE;
        }
    }

    public int ways(int f) {
        return theNet.isField(f) ? theNet.waySetOf(f) : UNKNOWN;
    }

    public int man(int side, int m) {
        return theNet.isMan(side, m) ? at(theGame.men, slot(side, m)) : UNKNOWN;
    }

    public int law(int v) {
        if (v < 0 || v >= LAWS) {
            return OUTSIDE;
        }
        int was = theLaw;
        theLaw = v;
        theTable.forget();
        return was;
    }

    // ---- slips, moves

    public int slip(int side, int i) {
        if (!isSide(side)) {
            return UNKNOWN;
        }
        int many = theSlips.many(theGame.men, side);
        if (i == NONE) {
            return many;
        }
        return i < 0 || i >= many ? NONE : theSlips.pick(theGame.men, side, i);
    }

    public int move(int a, int b) {
        if (!canCome(a, b)) {
            return UNKNOWN;
        }
        if (isOver()) {
            return NOT;
        }
        if (theGame.moves >= MOST_MOVES) {
            return FULL;
        }
        makeMove(a, b);
        return theNet.how(theGame.men);
    }

    public int drift(int n) {
        if (n < 1 || n > MOST_MOVES) {
            return OUTSIDE;
        }
        if (isOver()) {
            return NOT;
        }
        for (int i = 0; i < n && !isOver(); i++) {
            if (theGame.moves >= MOST_MOVES) {
                return FULL;
            }
            int a = drawSlip(0);
            int b = drawSlip(1);
            makeMove(a, b);
        }
        return theNet.how(theGame.men);
    }

    public int begin() {
        int had = theGame.moves;
        theGame.toStart(theNet.start);
        theTable.forget();
        return had;
    }

    public int tried(int a, int b, int what) {
        if (!canCome(a, b)) {
            return UNKNOWN;
        }
        if (what < 0 || what > ALL_MEN) {
            return OUTSIDE;
        }
        int k = what - 1;
        if (k >= 0 && !theNet.isMan(sideOf(k), k % SIDE_MEN)) {
            return UNKNOWN;
        }
        if (isOver()) {
            return NOT;
        }
        theWork.run(theGame.men, a, b, theLaw);
        return k < 0 ? theNet.how(theWork.goal) : at(theWork.goal, k);
    }

    // ---- tables, lots

    public int pays(int a, int b) {
        if (!canCome(a, b)) {
            return UNKNOWN;
        }
        if (isOver()) {
            return NOT;
        }
        theWork.run(theGame.men, a, b, theLaw);
        return theNet.pay(theWork.goal);
    }

    public int safe(int side, int what) {
        if (!isSide(side)) {
            return UNKNOWN;
        }
        if (what < 0 || what > 1) {
            return OUTSIDE;
        }
        if (!hasTable()) {
            return NOT;
        }
        theTable.fill(theGame.men, theLaw);
        int best = theTable.safest(side);
        return what == 0 ? theTable.slipAt(side, best) : theTable.worst(side, best);
    }

    public int answer(int side, int slip) {
        if (!isSide(side) || !theSlips.may(theGame.men, 1 - side, slip)) {
            return UNKNOWN;
        }
        if (!hasTable()) {
            return NOT;
        }
        theTable.fill(theGame.men, theLaw);
        int theirs = theTable.find(1 - side, slip);
        return theTable.slipAt(side, theTable.bestAgainst(side, theirs));
    }

    public int bounds(int r, int what) {
        if (r < 1 || r > MOST_ROUNDS || what < 0 || what > 1) {
            return OUTSIDE;
        }
        if (!hasTable()) {
            return NOT;
        }
        theTable.fill(theGame.men, theLaw);
        theTable.playRounds(r);
        // what side 0's lot is worth at its worst is what side 1's best slip leaves of it
        return theTable.leadingTotal(1 - what, r) / r;
    }

    public int share(int side, int slip, int r) {
        if (!isSide(side) || !theSlips.may(theGame.men, side, slip)) {
            return UNKNOWN;
        }
        if (r < 1 || r > MOST_ROUNDS) {
            return OUTSIDE;
        }
        if (!hasTable()) {
            return NOT;
        }
        theTable.fill(theGame.men, theLaw);
        theTable.playRounds(r);
        return theTable.timesWritten(side, theTable.find(side, slip), r);
    }

    // ---- duels

    public int duel(int a, int b, int n) {
        if (!canDuel(a, b)) {
            return UNKNOWN;
        }
        if (n < 0 || n > DUEL_MOVES) {
            return OUTSIDE;
        }
        theDuels.fill(n, theLaw);
        return theDuels.valueOf(a, b, n, theLaw);
    }

    public int lot(int a, int b, int n, int side, int order) {
        if (!canDuel(a, b) || !isSide(side)) {
            return UNKNOWN;
        }
        if (n < 1 || n > DUEL_MOVES || order < 0 || order >= DUEL_ORDERS) {
            return OUTSIDE;
        }
        if (theDuels.howAt(a, b) != GOES_ON) {
            return NOT;
        }
        theDuels.fill(n - 1, theLaw);
        theDuels.layOut(a, b, n, theLaw);
        theDuels.lots.solve();
        return theDuels.lots.shareOf(side, order);
    }

    // ---- results, games

    public int stand(int side, int m, int f) {
        if (!theNet.isMan(side, m) || (f != NONE && !theNet.isField(f))) {
            return UNKNOWN;
        }
        int k = slot(side, m);
        int was = at(target, k);
        put(target, k, f);
        return was;
    }

    public int written(int i, int what) {
        if (what < 0 || what > 1) {
            return OUTSIDE;
        }
        if (!hasTable()) {
            return NOT;
        }
        theTable.fill(theGame.men, theLaw);
        int standing = standingNumber(target);
        // a table has 625 pairs at most, so what is counted never comes near 999999
        return i == NONE ? theTable.pairsTo(standing) : theTable.slipOfPairTo(standing, i, what);
    }

    public int game(int i, int what) {
        if (what < 0 || what > 1) {
            return OUTSIDE;
        }
        return i < 0 || i >= theGame.moves ? NONE : theGame.slipOf(what, i);
    }

    public int log(int a, int b) {
        if (a < NONE || a > TOP_SLIP || b < NONE || b > TOP_SLIP) {
            return OUTSIDE;
        }
        if (theLog.many >= MOST_MOVES) {
            return FULL;
        }
        theLog.add(a, b);
        return theLog.many;
    }

    public int clear() {
        int had = theLog.many;
        theLog.many = 0;
        return had;
    }

    public int judge() {
        return replayLog();
    }

    public int replayed(int side, int m) {
        if (!theNet.isMan(side, m)) {
            return UNKNOWN;
        }
        replayLog();
        return at(theLog.men, slot(side, m));
    }

    public int promise(int side, int m, int order, int move) {
        if (!theNet.isMan(side, m)) {
            return UNKNOWN;
        }
        if (order < 0 || order >= ORDERS || move < 0 || move >= MOST_MOVES) {
            return OUTSIDE;
        }
        if (thePromises.many >= MOST_PROMISES) {
            return FULL;
        }
        return thePromises.add(slot(side, m), order, move);
    }

    public int kept(int i) {
        if (i < 0 || i >= thePromises.many) {
            return UNKNOWN;
        }
        int when = at(thePromises.move, i);
        if (when >= theGame.moves) {
            return 0;
        }
        return theGame.orderDone(when, at(thePromises.man, i)) == at(thePromises.order, i) ? 1 : 2;
    }

    // ---- draws, images

    public int seed(int v) {
        if (v < 0) {
            return OUTSIDE;
        }
        int was = theGame.seedNow;
        theGame.seedNow = v;
        return was;
    }

    public int keep(int i) {
        if (i < 0 || i > 1) {
            return UNKNOWN;
        }
        Game image = i == 0 ? image0 : image1;
        image.become(theGame);
        image.isImage = true;
        return 1;
    }

    public int goBack(int i) {
        if (i < 0 || i > 1) {
            return UNKNOWN;
        }
        Game image = i == 0 ? image0 : image1;
        if (!image.isImage) {
            return NOT;
        }
        theGame.become(image);
        theTable.forget();
        return 1;
    }

    // ---- what the calls share

    private boolean isOver() {
        return theNet.how(theGame.men) != GOES_ON;
    }

    /** Whether both slips may come in: written ones, or NONE for one that came late or was lost. */
    private boolean canCome(int a, int b) {
        return (a == NONE || theSlips.may(theGame.men, 0, a))
            && (b == NONE || theSlips.may(theGame.men, 1, b));
    }

    private boolean canDuel(int a, int b) {
        return theNet.isField(a) && theNet.isField(b) && a != b;
    }

    private boolean hasTable() {
        return !isOver()
            && standing(theGame.men, 0) <= TABLE_MEN
            && standing(theGame.men, 1) <= TABLE_MEN;
    }

    private int drawSlip(int side) {
        return theSlips.pick(theGame.men, side, theGame.draw(theSlips.many(theGame.men, side)));
    }

    private void makeMove(int a, int b) {
        theWork.run(theGame.men, a, b, theLaw);
        theGame.add(a, b, theWork.goal);
        theTable.forget();
    }

    /** Plays the log from the beginning, by the law as it is; answers its first wrong pair. */
    private int replayLog() {
        int[] men = theLog.men;
        copyRow(theNet.start, men);
        for (int i = 0; i < theLog.many; i++) {
            int a = at(theLog.slips0, i);
            int b = at(theLog.slips1, i);
            boolean may = (a == NONE || theSlips.may(men, 0, a)) && (b == NONE || theSlips.may(men, 1, b));
            if (!may || theNet.how(men) != GOES_ON) {
                return i;
            }
            theWork.run(men, a, b, theLaw);
            copyRow(theWork.goal, men);
        }
        return NONE;
    }

    private static boolean isSide(int side) {
        return side == 0 || side == 1;
    }

    /** The men of both sides stand in one row: side 0's three, then side 1's. */
    private static int slot(int side, int m) {
        return SIDE_MEN * side + m;
    }

    private static int sideOf(int k) {
        return k < SIDE_MEN ? 0 : 1;
    }

    private static int standing(int[] men, int side) {
        int many = 0;
        for (int k = 0; k < men.length; k++) {
            if (sideOf(k) == side && men[k] != NONE) {
                many++;
            }
        }
        return many;
    }

    /** Where all the men stand, as one number: a figure for each, 0 for a fallen one. */
    private static int standingNumber(int[] men) {
        int number = 0;
        for (int k = 0; k < men.length; k++) {
            number = 10 * number + men[k] - NONE;
        }
        return number;
    }

    private static int endPay(int how) {
        return how == DRAWN ? EVEN : how == 1 ? 1000 : 0;
    }

    /** Rows are read with an index that was not counted out by a loop through this alone. */
    private static int at(int[] row, int i) {
        return i >= 0 && i < row.length ? row[i] : NONE;
    }

    private static void put(int[] row, int i, int v) {
        if (i >= 0 && i < row.length) {
            row[i] = v;
        }
    }

    private static long longAt(long[] row, int i) {
        return i >= 0 && i < row.length ? row[i] : 0L;
    }

    private static void addTo(long[] row, int i, long v) {
        if (i >= 0 && i < row.length) {
            row[i] += v;
        }
    }

    private static void fillRow(int[] row, int v) {
        for (int i = 0; i < row.length; i++) {
            row[i] = v;
        }
    }

    private static void copyRow(int[] from, int[] to) {
        for (int i = 0; i < from.length && i < to.length; i++) {
            to[i] = from[i];
        }
    }

    /** Fields, ways, homes, and where the men stand at the beginning. */
    private static final class Net {
        int fields;
        final int[] waySets = new int[MOST_FIELDS];
        final int[] home = new int[SIDES];
        final int[] start = new int[ALL_MEN];
        final int[] menOf = new int[SIDES];

        Net() {
            wipe();
        }

        void wipe() {
            fields = 0;
            fillRow(waySets, 0);
            fillRow(home, NONE);
            fillRow(start, NONE);
            fillRow(menOf, 0);
        }

        void become(Net other) {
            fields = other.fields;
            copyRow(other.waySets, waySets);
            copyRow(other.home, home);
            copyRow(other.start, start);
            copyRow(other.menOf, menOf);
        }

        void open(int many) {
            fields = many;
            home[0] = 0;
            home[1] = many - 1;
        }

        boolean isField(int f) {
            return f >= 0 && f < fields;
        }

        boolean isMan(int side, int m) {
            return isSide(side) && m >= 0 && m < at(menOf, side);
        }

        int waySetOf(int f) {
            return f >= 0 && f < waySets.length ? waySets[f] : 0;
        }

        int manyWays(int f) {
            return Integer.bitCount(waySetOf(f));
        }

        /** Where way k of a field leads, by rising fields; NONE: it has no such way. */
        int wayOf(int f, int k) {
            int set = waySetOf(f);
            int ahead = k;
            for (int g = 0; g < fields && ahead >= 0; g++) {
                if ((set >> g & 1) == 1) {
                    if (ahead == 0) {
                        return g;
                    }
                    ahead--;
                }
            }
            return NONE;
        }

        boolean hasWay(int f, int g) {
            return g >= 0 && g < MOST_FIELDS && (waySetOf(f) >> g & 1) == 1;
        }

        boolean mayJoin(int f, int g) {
            return f != g && !hasWay(f, g) && manyWays(f) < MOST_WAYS && manyWays(g) < MOST_WAYS;
        }

        void join(int f, int g) {
            put(waySets, f, waySetOf(f) | 1 << g);
            put(waySets, g, waySetOf(g) | 1 << f);
        }

        boolean mayPlace(int side, int f) {
            for (int k = 0; k < ALL_MEN; k++) {
                if (start[k] == f) {
                    return false;
                }
            }
            return at(menOf, side) < SIDE_MEN;
        }

        void place(int side, int f) {
            int m = at(menOf, side);
            put(start, slot(side, m), f);
            put(menOf, side, m + 1);
        }

        /** How a game is in which the men stand so: it goes on, won by side 0, by side 1, drawn. */
        int how(int[] men) {
            boolean first = standsOn(men, 0, home[1]) || standing(men, 1) == 0;
            boolean second = standsOn(men, 1, home[0]) || standing(men, 0) == 0;
            return first ? (second ? DRAWN : 1) : (second ? 2 : GOES_ON);
        }

        private boolean standsOn(int[] men, int side, int f) {
            for (int k = 0; k < men.length; k++) {
                if (sideOf(k) == side && men[k] != NONE && men[k] == f) {
                    return true;
                }
            }
            return false;
        }

        int pay(int[] men) {
            int how = how(men);
            return how == GOES_ON ? EVEN + 100 * (standing(men, 0) - standing(men, 1)) : endPay(how);
        }
    }

    /** The text, and how it is read into a net. */
    private static final class Reader {
        private static final int CANNOT = 1, BAD_NUMBER = 2, TOLD_ALREADY = 3, DOES_NOT_FIT = 4;
        private static final int NO_WORD = 0, FIELDS_WORD = 1, WAY_WORD = 2, HOME_WORD = 3, MAN_WORD = 4;

        final Net draft = new Net();
        int length;
        int faultNumber;
        int faultPlace = NONE;
        private final int[] text = new int[MOST_BYTES];
        private int cursor;
        /** Where the word, the number stands that was read last. */
        private int place;
        private boolean homeTold;

        void take(int n, long bytes) {
            for (int i = n - 1; i >= 0; i--) {
                put(text, length, (int) ((bytes >> (8 * i)) & 255L));
                length++;
            }
        }

        void read() {
            draft.wipe();
            faultNumber = 0;
            faultPlace = NONE;
            cursor = 0;
            homeTold = false;
            skipBlanks();
            for (int clauses = 0; clauses < MOST_BYTES && cursor < length && faultNumber == 0; clauses++) {
                readClause();
            }
            length = 0;
        }

        private void blame(int number, int where) {
            if (faultNumber == 0) {
                faultNumber = number;
                faultPlace = where;
            }
        }

        private void skipBlanks() {
            while (cursor < length && at(text, cursor) == ' ') {
                cursor++;
            }
        }

        private static boolean isLetter(int c) {
            return c >= 'a' && c <= 'z';
        }

        private static boolean isFigure(int c) {
            return c >= '0' && c <= '9';
        }

        private void readClause() {
            int word = readWord();
            boolean opened = draft.fields > 0;
            if (word == NO_WORD || (!opened && word != FIELDS_WORD)) {
                blame(CANNOT, place);
            } else if ((opened && word == FIELDS_WORD) || (homeTold && word == HOME_WORD)) {
                blame(TOLD_ALREADY, place);
            } else if (word == FIELDS_WORD) {
                readFields();
            } else if (word == WAY_WORD) {
                readWay();
            } else if (word == HOME_WORD) {
                readHome();
            } else {
                readMan();
            }
            readEnd();
        }

        /** Leaves the cursor behind the word; no word that there is: NO_WORD. */
        private int readWord() {
            place = cursor;
            while (cursor < length && isLetter(at(text, cursor))) {
                cursor++;
            }
            int word = isWord("fields") ? FIELDS_WORD
                : isWord("way") ? WAY_WORD
                : isWord("home") ? HOME_WORD
                : isWord("man") ? MAN_WORD : NO_WORD;
            skipBlanks();
            return word;
        }

        private boolean isWord(String word) {
            if (cursor - place != word.length()) {
                return false;
            }
            for (int i = 0; i < word.length(); i++) {
                if (at(text, place + i) != word.charAt(i)) {
                    return false;
                }
            }
            return true;
        }

        private int readNumber(int least, int most) {
            place = cursor;
            int number = 0;
            while (cursor < length && isFigure(at(text, cursor))) {
                // four figures are a fault anyway, so what a long number comes to does not matter
                number = Math.min(10 * number + at(text, cursor) - '0', 9999);
                cursor++;
            }
            if (cursor == place) {
                blame(CANNOT, place);
            } else if (cursor - place > 3 || number < least || number > most) {
                blame(BAD_NUMBER, place);
            }
            skipBlanks();
            return number;
        }

        private void readEnd() {
            if (cursor >= length || at(text, cursor) != ';') {
                blame(CANNOT, cursor);
            }
            cursor++;
            skipBlanks();
        }

        private void readFields() {
            int many = readNumber(2, MOST_FIELDS);
            if (faultNumber == 0) {
                draft.open(many);
            }
        }

        private void readWay() {
            int a = readNumber(0, draft.fields - 1);
            int b = readNumber(0, draft.fields - 1);
            if (faultNumber != 0) {
                return;
            }
            if (draft.mayJoin(a, b)) {
                draft.join(a, b);
            } else {
                blame(DOES_NOT_FIT, place);
            }
        }

        private void readHome() {
            int a = readNumber(0, draft.fields - 1);
            int b = readNumber(0, draft.fields - 1);
            if (a == b) {
                blame(DOES_NOT_FIT, place);
            }
            homeTold = true;
            draft.home[0] = a;
            draft.home[1] = b;
        }

        private void readMan() {
            int side = readNumber(0, 1);
            int f = readNumber(0, draft.fields - 1);
            if (faultNumber != 0) {
                return;
            }
            if (draft.mayPlace(side, f)) {
                draft.place(side, f);
            } else {
                blame(DOES_NOT_FIT, place);
            }
        }
    }

    /** Which orders, which slips men may be given as they stand. */
    private static final class Slips {
        private final Net net;

        Slips(Net net) {
            this.net = net;
        }

        /** Orders of a man: to stay, its ways, and a help for each other man of its side. */
        private int choices(int[] men, int k) {
            int others = standing(men, sideOf(k)) - 1;
            return Math.max(1, 1 + net.manyWays(at(men, k)) + others);
        }

        int many(int[] men, int side) {
            int many = 1;
            for (int m = 0; m < SIDE_MEN; m++) {
                int k = slot(side, m);
                if (at(men, k) != NONE) {
                    many *= choices(men, k);
                }
            }
            return many;
        }

        /** The i-th slip by rising numbers: the first man's order changes soonest. */
        int pick(int[] men, int side, int i) {
            int rest = i;
            int slip = 0;
            int weight = 1;
            for (int m = 0; m < SIDE_MEN; m++) {
                int k = slot(side, m);
                int f = at(men, k);
                if (f != NONE) {
                    int choices = choices(men, k);
                    int ways = net.manyWays(f);
                    int choice = rest % choices;
                    int order = choice <= ways ? choice : HELP_FIRST + choice - ways - 1;
                    slip += weight * order;
                    weight *= ORDERS;
                    rest /= choices;
                }
            }
            return slip;
        }

        boolean may(int[] men, int side, int slip) {
            if (slip < 0) {
                return false;
            }
            int others = standing(men, side) - 1;
            int rest = slip;
            for (int m = 0; m < SIDE_MEN; m++) {
                int f = at(men, slot(side, m));
                if (f != NONE) {
                    int order = rest % ORDERS;
                    boolean helps = order >= HELP_FIRST && order - HELP_FIRST < others;
                    if (order > net.manyWays(f) && !helps) {
                        return false;
                    }
                    rest /= ORDERS;
                }
            }
            return rest == 0;
        }
    }

    /** Works a pair of slips: who goes, who is thrown back, who falls. */
    private static final class Work {
        private static final int STAYS_SO = 0, THROWN_BACK = 1, FALLS = 2;
        /** Each look but the last throws back a man that goes or fells one: a man twice at the most. */
        private static final int ENOUGH_LOOKS = 2 * ALL_MEN + 1;

        /** Where each man goes; where all stand behind the run; NONE: fallen. */
        final int[] goal = new int[ALL_MEN];
        private final Net net;
        private final int[] own = new int[ALL_MEN];
        private final int[] order = new int[ALL_MEN];
        private final int[] strength = new int[ALL_MEN];
        private final int[] fate = new int[ALL_MEN];

        Work(Net net) {
            this.net = net;
        }

        void run(int[] men, int slip0, int slip1, int law) {
            copyRow(men, own);
            readOrders(0, slip0);
            readOrders(1, slip1);
            setGoals();
            setStrengths();
            fillRow(fate, STAYS_SO);
            cross(law);
            settle();
            boolean more = true;
            for (int looks = 0; looks < ENOUGH_LOOKS && more; looks++) {
                fillRow(fate, STAYS_SO);
                for (int f = 0; f < net.fields; f++) {
                    lookAt(f);
                }
                more = settle();
            }
        }

        private void readOrders(int side, int slip) {
            int rest = slip == NONE ? 0 : slip;
            for (int m = 0; m < SIDE_MEN; m++) {
                int k = slot(side, m);
                boolean stands = at(own, k) != NONE;
                put(order, k, stands ? rest % ORDERS : 0);
                rest = stands ? rest / ORDERS : rest;
            }
        }

        private void setGoals() {
            for (int k = 0; k < ALL_MEN; k++) {
                int way = net.wayOf(own[k], order[k] - 1);
                goal[k] = way == NONE ? own[k] : way;
            }
        }

        private void setStrengths() {
            fillRow(strength, 1);
            for (int k = 0; k < ALL_MEN; k++) {
                int mate = helped(k);
                int there = at(goal, mate);
                if (mate != NONE && (own[k] == there || net.hasWay(own[k], there))) {
                    put(strength, mate, at(strength, mate) + 1);
                }
            }
        }

        /** The man that a man helps; NONE: it helps none. */
        private int helped(int k) {
            int ahead = at(order, k) - HELP_FIRST;
            int first = slot(sideOf(k), 0);
            for (int j = first; j < first + SIDE_MEN && ahead >= 0; j++) {
                if (j != k && at(own, j) != NONE) {
                    if (ahead == 0) {
                        return j;
                    }
                    ahead--;
                }
            }
            return NONE;
        }

        private void cross(int law) {
            for (int a = 0; a < SIDE_MEN; a++) {
                for (int b = SIDE_MEN; b < ALL_MEN; b++) {
                    boolean stand = own[a] != NONE && own[b] != NONE;
                    if (stand && goal[a] == own[b] && goal[b] == own[a]) {
                        meet(a, b, law);
                    }
                }
            }
        }

        private void meet(int a, int b, int law) {
            int more = at(strength, a) - at(strength, b);
            if (law == 2) {
                put(fate, a, FALLS);
                put(fate, b, FALLS);
            } else if (law == 1) {
                put(fate, a, more <= 0 ? THROWN_BACK : STAYS_SO);
                put(fate, b, more >= 0 ? THROWN_BACK : STAYS_SO);
            }
        }

        private void lookAt(int f) {
            int comers = 0;
            int most = 0;
            int best = NONE;
            for (int k = 0; k < ALL_MEN; k++) {
                if (goal[k] == f) {
                    comers++;
                    best = strength[k] > most ? k : strength[k] == most ? NONE : best;
                    most = Math.max(most, strength[k]);
                }
            }
            for (int k = 0; k < ALL_MEN && comers > 1; k++) {
                if (goal[k] == f && k != best) {
                    lose(k, best, f);
                }
            }
        }

        /** What becomes of a man that is not the best of those that would come to a field. */
        private void lose(int k, int best, int f) {
            if (at(own, k) != f) {
                put(fate, k, THROWN_BACK);
            } else if (best != NONE && sideOf(best) == sideOf(k)) {
                put(fate, best, THROWN_BACK);
            } else if (best != NONE) {
                put(fate, k, FALLS);
            }
        }

        /** Does all that came of a look together; whether there was anything to do. */
        private boolean settle() {
            boolean changed = false;
            for (int k = 0; k < ALL_MEN; k++) {
                if (fate[k] == FALLS) {
                    goal[k] = NONE;
                    changed = true;
                } else if (fate[k] == THROWN_BACK) {
                    goal[k] = own[k];
                    strength[k] = 1;
                    changed = true;
                }
            }
            return changed;
        }
    }

    /** The table of all slips against all, what they come to, and rounds played on it. */
    private static final class Table {
        private final Net net;
        private final Slips slips;
        private final Work work;
        private boolean filled;
        private int many0;
        private int many1;
        private final int[] slips0 = new int[TABLE_SLIPS];
        private final int[] slips1 = new int[TABLE_SLIPS];
        private final int[] payRow = new int[TABLE_SLIPS * TABLE_SLIPS];
        /** The standing numbers that the pairs come to. */
        private final int[] endRow = new int[TABLE_SLIPS * TABLE_SLIPS];
        /** What each slip came to against all that the other side wrote. */
        private final int[] total0 = new int[TABLE_SLIPS];
        private final int[] total1 = new int[TABLE_SLIPS];
        /** For how many numbers of rounds, from 0 on, the leading slips stand in the rows below. */
        private int led;
        /** Behind k rounds: the slip that is best against all till then, which is written next; its total. */
        private final int[] leading0 = new int[MOST_ROUNDS + 1];
        private final int[] leading1 = new int[MOST_ROUNDS + 1];
        private final int[] top0 = new int[MOST_ROUNDS + 1];
        private final int[] top1 = new int[MOST_ROUNDS + 1];

        Table(Net net, Slips slips, Work work) {
            this.net = net;
            this.slips = slips;
            this.work = work;
        }

        void forget() {
            filled = false;
        }

        void fill(int[] men, int law) {
            if (filled) {
                return;
            }
            many0 = list(men, 0, slips0);
            many1 = list(men, 1, slips1);
            for (int i = 0; i < many0; i++) {
                for (int j = 0; j < many1; j++) {
                    work.run(men, at(slips0, i), at(slips1, j), law);
                    put(payRow, place(i, j), net.pay(work.goal));
                    put(endRow, place(i, j), standingNumber(work.goal));
                }
            }
            fillRow(total0, 0);
            fillRow(total1, 0);
            led = 0;
            filled = true;
        }

        private int list(int[] men, int side, int[] row) {
            int many = Math.min(slips.many(men, side), TABLE_SLIPS);
            for (int i = 0; i < many; i++) {
                put(row, i, slips.pick(men, side, i));
            }
            return many;
        }

        private static int place(int i, int j) {
            return TABLE_SLIPS * i + j;
        }

        private int many(int side) {
            return side == 0 ? many0 : many1;
        }

        int slipAt(int side, int i) {
            return at(side == 0 ? slips0 : slips1, i);
        }

        int find(int side, int slip) {
            for (int i = 0; i < many(side); i++) {
                if (slipAt(side, i) == slip) {
                    return i;
                }
            }
            return NONE;
        }

        int pairsTo(int standing) {
            int many = 0;
            for (int i = 0; i < many0; i++) {
                for (int j = 0; j < many1; j++) {
                    many += at(endRow, place(i, j)) == standing ? 1 : 0;
                }
            }
            return many;
        }

        /** A side's slip of the which-th pair that comes to a standing; NONE: there are not so many. */
        int slipOfPairTo(int standing, int which, int side) {
            int ahead = which;
            for (int i = 0; i < many0 && ahead >= 0; i++) {
                for (int j = 0; j < many1; j++) {
                    if (at(endRow, place(i, j)) == standing) {
                        if (ahead == 0) {
                            return slipAt(side, side == 0 ? i : j);
                        }
                        ahead--;
                    }
                }
            }
            return NONE;
        }

        private int payOf(int side, int mine, int theirs) {
            return at(payRow, side == 0 ? place(mine, theirs) : place(theirs, mine));
        }

        /** Side 0 wants much, side 1 little. */
        private boolean better(int side, int pay, int than) {
            return side == 0 ? pay > than : pay < than;
        }

        int worst(int side, int mine) {
            int worst = payOf(side, mine, 0);
            for (int j = 1; j < many(1 - side); j++) {
                int pay = payOf(side, mine, j);
                worst = better(side, worst, pay) ? pay : worst;
            }
            return worst;
        }

        int safest(int side) {
            int best = 0;
            int bestWorst = worst(side, 0);
            for (int i = 1; i < many(side); i++) {
                int worst = worst(side, i);
                if (better(side, worst, bestWorst)) {
                    best = i;
                    bestWorst = worst;
                }
            }
            return best;
        }

        int bestAgainst(int side, int theirs) {
            int best = 0;
            for (int i = 1; i < many(side); i++) {
                if (better(side, payOf(side, i, theirs), payOf(side, best, theirs))) {
                    best = i;
                }
            }
            return best;
        }

        /** Plays on to r rounds from those that were played on this table already. */
        void playRounds(int r) {
            for (; led <= r && led <= MOST_ROUNDS; led++) {
                if (led > 0) {
                    addRound(at(leading0, led - 1), at(leading1, led - 1));
                }
                int a = leader(0);
                int b = leader(1);
                put(leading0, led, a);
                put(leading1, led, b);
                put(top0, led, at(total0, a));
                put(top1, led, at(total1, b));
            }
        }

        private void addRound(int a, int b) {
            for (int i = 0; i < many0; i++) {
                put(total0, i, at(total0, i) + payOf(0, i, b));
            }
            for (int j = 0; j < many1; j++) {
                put(total1, j, at(total1, j) + payOf(1, j, a));
            }
        }

        private int leader(int side) {
            int[] total = side == 0 ? total0 : total1;
            int best = 0;
            for (int i = 1; i < many(side); i++) {
                if (better(side, at(total, i), at(total, best))) {
                    best = i;
                }
            }
            return best;
        }

        int leadingTotal(int side, int r) {
            return at(side == 0 ? top0 : top1, r);
        }

        int timesWritten(int side, int slipPlace, int r) {
            int[] leading = side == 0 ? leading0 : leading1;
            int times = 0;
            for (int k = 0; k < r && k < leading.length; k++) {
                times += leading[k] == slipPlace ? 1 : 0;
            }
            return times;
        }
    }

    /** Duels of one man each, their values from the end back. */
    private static final class Duels {
        final Lots lots = new Lots();
        private final Net net;
        private final Work work;
        private final int[] values = new int[LAWS * (DUEL_MOVES + 1) * MOST_FIELDS * MOST_FIELDS];
        private final int[] men = new int[ALL_MEN];
        /** By each law: for how many numbers of moves, from 0 on, the values stand. */
        private final int[] known = new int[LAWS];

        Duels(Net net, Work work) {
            this.net = net;
            this.work = work;
            fillRow(men, NONE);
        }

        void forget() {
            fillRow(known, 0);
        }

        /** Works the values out up to n moves to go. */
        void fill(int n, int law) {
            for (int left = Math.max(0, at(known, law)); left <= n && left <= DUEL_MOVES; left++) {
                for (int a = 0; a < net.fields; a++) {
                    for (int b = 0; b < net.fields; b++) {
                        if (a != b) {
                            put(values, place(a, b, left, law), worth(a, b, left, law));
                        }
                    }
                }
                put(known, law, left + 1);
            }
        }

        int valueOf(int a, int b, int left, int law) {
            return at(values, place(a, b, left, law));
        }

        private static int place(int a, int b, int left, int law) {
            return ((law * (DUEL_MOVES + 1) + left) * MOST_FIELDS + a) * MOST_FIELDS + b;
        }

        /** How a duel stands before any move. */
        int howAt(int a, int b) {
            men[0] = a;
            men[SIDE_MEN] = b;
            return net.how(men);
        }

        private int worth(int a, int b, int left, int law) {
            int how = howAt(a, b);
            if (how != GOES_ON || left == 0) {
                return how == GOES_ON ? EVEN : endPay(how);
            }
            layOut(a, b, left, law);
            lots.solve();
            return lots.value();
        }

        /** Lays out what each pair of orders comes to, by the values with one move less. */
        void layOut(int a, int b, int left, int law) {
            men[0] = a;
            men[SIDE_MEN] = b;
            int ways0 = net.manyWays(a);
            int ways1 = net.manyWays(b);
            lots.open(1 + ways0, 1 + ways1);
            for (int i = 0; i <= ways0; i++) {
                for (int j = 0; j <= ways1; j++) {
                    work.run(men, i, j, law);
                    int[] goal = work.goal;
                    int how = net.how(goal);
                    boolean goesOn = how == GOES_ON;
                    lots.setPay(i, j, goesOn ? valueOf(goal[0], goal[SIDE_MEN], left - 1, law) : endPay(how));
                }
            }
        }
    }

    /** A game of few orders, solved exactly; shares and value are weights over their whole. */
    private static final class Lots {
        private int rows;
        private int cols;
        private final long[] pay = new long[DUEL_ORDERS * DUEL_ORDERS];
        private final int[] chosen0 = new int[DUEL_ORDERS];
        private final int[] chosen1 = new int[DUEL_ORDERS];
        private final long[] weight0 = new long[DUEL_ORDERS];
        private final long[] weight1 = new long[DUEL_ORDERS];
        /** What is left of the chosen pays without one row and one column. */
        private final long[] left = new long[(DUEL_ORDERS - 1) * (DUEL_ORDERS - 1)];
        private long whole;
        private long worth;

        void open(int manyRows, int manyCols) {
            rows = Math.min(manyRows, DUEL_ORDERS);
            cols = Math.min(manyCols, DUEL_ORDERS);
        }

        void setPay(int i, int j, int value) {
            int place = DUEL_ORDERS * i + j;
            if (place >= 0 && place < pay.length) {
                pay[place] = value;
            }
        }

        private long payOf(int i, int j) {
            int place = DUEL_ORDERS * i + j;
            return place >= 0 && place < pay.length ? pay[place] : 0L;
        }

        int value() {
            return whole == 0 ? EVEN : (int) (worth / whole);
        }

        int shareOf(int side, int order) {
            long weight = longAt(side == 0 ? weight0 : weight1, order);
            return whole == 0 ? 0 : (int) (weight * MILLION / whole);
        }

        void solve() {
            for (int size = 1; size <= rows && size <= cols; size++) {
                for (int set0 = 1; set0 < 1 << rows; set0++) {
                    for (int set1 = 1; set1 < 1 << cols; set1++) {
                        boolean alike = Integer.bitCount(set0) == size && Integer.bitCount(set1) == size;
                        if (alike && holds(set0, set1, size)) {
                            return;
                        }
                    }
                }
            }
        }

        private boolean holds(int set0, int set1, int size) {
            choose(set0, chosen0);
            choose(set1, chosen1);
            weighSets(size);
            return whole != 0 && noneLess() && noneGains();
        }

        private void choose(int set, int[] chosen) {
            int many = 0;
            for (int k = 0; k < DUEL_ORDERS; k++) {
                if ((set >> k & 1) == 1) {
                    put(chosen, many, k);
                    many++;
                }
            }
        }

        /**
         * The shares that make the other's orders alike are the sums of the cofactors by rows, by
         * columns, over the sum of all; where that is 0 there is no way or more than one.
         */
        private void weighSets(int size) {
            for (int k = 0; k < DUEL_ORDERS; k++) {
                weight0[k] = 0;
                weight1[k] = 0;
            }
            whole = 0;
            worth = 0;
            for (int i = 0; i < size; i++) {
                for (int j = 0; j < size; j++) {
                    long c = cofactor(i, j, size);
                    whole += c;
                    addTo(weight0, at(chosen0, i), c);
                    addTo(weight1, at(chosen1, j), c);
                    worth += i == 0 ? c * payOf(at(chosen0, 0), at(chosen1, j)) : 0;
                }
            }
            if (whole < 0) {
                turn();
            }
        }

        private void turn() {
            whole = -whole;
            worth = -worth;
            for (int k = 0; k < DUEL_ORDERS; k++) {
                weight0[k] = -weight0[k];
                weight1[k] = -weight1[k];
            }
        }

        private long cofactor(int row, int col, int size) {
            int n = 0;
            for (int i = 0; i < size; i++) {
                for (int j = 0; j < size; j++) {
                    if (i != row && j != col && n < left.length) {
                        left[n] = payOf(at(chosen0, i), at(chosen1, j));
                        n++;
                    }
                }
            }
            long det = determinant(size - 1);
            return (row + col) % 2 == 0 ? det : -det;
        }

        private long determinant(int size) {
            switch (size) {
                case 0: return 1;
                case 1: return left[0];
                case 2: return left[0] * left[3] - left[1] * left[2];
                default: return left[0] * (left[4] * left[8] - left[5] * left[7])
                    - left[1] * (left[3] * left[8] - left[5] * left[6])
                    + left[2] * (left[3] * left[7] - left[4] * left[6]);
            }
        }

        private boolean noneLess() {
            for (int k = 0; k < DUEL_ORDERS; k++) {
                if (weight0[k] < 0 || weight1[k] < 0) {
                    return false;
                }
            }
            return true;
        }

        private boolean noneGains() {
            for (int i = 0; i < rows; i++) {
                long sum = 0;
                for (int j = 0; j < cols; j++) {
                    sum += payOf(i, j) * longAt(weight1, j);
                }
                if (sum > worth) {
                    return false;
                }
            }
            for (int j = 0; j < cols; j++) {
                long sum = 0;
                for (int i = 0; i < rows; i++) {
                    sum += payOf(i, j) * longAt(weight0, i);
                }
                if (sum < worth) {
                    return false;
                }
            }
            return true;
        }
    }

    /** The game in hand, or an image of it: its men, its pairs of slips, the seed. */
    private static final class Game {
        final int[] men = new int[ALL_MEN];
        int moves;
        int seedNow;
        /** Of an image: whether one was kept in it. */
        boolean isImage;
        private final int[] slips0 = new int[MOST_MOVES];
        private final int[] slips1 = new int[MOST_MOVES];
        /** Which men stood ahead of each move: a slip is read by them, and the law may have changed since. */
        private final int[] stood = new int[MOST_MOVES];

        Game() {
            fillRow(men, NONE);
        }

        void toStart(int[] start) {
            copyRow(start, men);
            moves = 0;
        }

        void become(Game other) {
            copyRow(other.men, men);
            copyRow(other.slips0, slips0);
            copyRow(other.slips1, slips1);
            copyRow(other.stood, stood);
            moves = other.moves;
            seedNow = other.seedNow;
        }

        void add(int a, int b, int[] after) {
            int set = 0;
            for (int k = 0; k < ALL_MEN; k++) {
                set |= men[k] == NONE ? 0 : 1 << k;
            }
            put(slips0, moves, a == NONE ? 0 : a);
            put(slips1, moves, b == NONE ? 0 : b);
            put(stood, moves, set);
            copyRow(after, men);
            moves++;
        }

        int slipOf(int side, int i) {
            return at(side == 0 ? slips0 : slips1, i);
        }

        /** The order that a man had in a move; NONE: it had fallen. */
        int orderDone(int i, int k) {
            int set = at(stood, i);
            if (k < 0 || (set >> k & 1) == 0) {
                return NONE;
            }
            int rest = slipOf(sideOf(k), i);
            for (int j = slot(sideOf(k), 0); j < k; j++) {
                rest = (set >> j & 1) == 1 ? rest / ORDERS : rest;
            }
            return rest % ORDERS;
        }

        int draw(int n) {
            seedNow = (int) ((seedNow * 1103515245L + 12345L) % 2147483648L);
            return n > 0 ? seedNow / 65536 % n : 0;
        }
    }

    /** Pairs of slips as they are told, and the men behind them when they are replayed. */
    private static final class Log {
        final int[] slips0 = new int[MOST_MOVES];
        final int[] slips1 = new int[MOST_MOVES];
        final int[] men = new int[ALL_MEN];
        int many;

        void add(int a, int b) {
            put(slips0, many, a);
            put(slips1, many, b);
            many++;
        }
    }

    /** What men were promised to do, in which move. */
    private static final class Promises {
        final int[] man = new int[MOST_PROMISES];
        final int[] order = new int[MOST_PROMISES];
        final int[] move = new int[MOST_PROMISES];
        int many;

        int add(int k, int anOrder, int aMove) {
            put(man, many, k);
            put(order, many, anOrder);
            put(move, many, aMove);
            many++;
            return many - 1;
        }
    }
}
