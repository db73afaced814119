/**
 * The refusals, promise by promise: the numbers too small and too large by one and the smallest and
 * largest that are allowed, which of several refusals is the first, and that a refused call changes
 * nothing: two objects have the same calls, one of them the refused one beside, and all that can be
 * asked of both is alike.
 */
public final class RefusalTest {
    private static final Due DUE = new Due("RefusalTest");
    private static final int UNKNOWN = BothWrite.UNKNOWN, OUTSIDE = BothWrite.OUTSIDE, NOT = BothWrite.NOT,
        FULL = BothWrite.FULL, NONE = BothWrite.NONE, LEAST = Integer.MIN_VALUE, MOST = Integer.MAX_VALUE;
    private static final String FALL = "fields 9;home 7 8;way 0 1;way 0 2;way 0 3;way 1 2;way 3 4;man 0 1;man 0 2;man 1 0;man 1 3;";
    /** Side 0's man on 1 goes to 0 with help from 2. */
    private static final int FELLS = 1 + 6 * 4;
    private static final String LINE = "fields 4;way 0 1;way 1 2;way 2 3;man 0 2;man 1 1;";

    private interface Run {
        void on(BothWrite x);
    }

    private interface Call {
        int on(BothWrite x);
    }

    public static void main(String[] args) {
        constants();
        feeds();
        fullTexts();
        tolds();
        fieldsThatThereAreNot();
        menThatThereAreNot();
        laws();
        slips();
        movesThatAreNotWritten();
        movesWhenOver();
        movesWhenFull();
        driftsOutside();
        driftsNot();
        driftsFull();
        triedSlips();
        triedMen();
        triedWhat();
        pays();
        safes();
        answers();
        bounds();
        shares();
        threeMen();
        duels();
        lotsUnknown();
        lotsOutside();
        lotsNot();
        stands();
        writtens();
        games();
        logsOutside();
        logsFull();
        replays();
        promisesUnknown();
        promisesOutside();
        promisesFull();
        kepts();
        seeds();
        images();
        nothingOfANewObject();
        DUE.end();
    }

    /** A call that is refused: with this answer, and all stays as it was. */
    private static void refused(String name, Run ahead, Call call, int want) {
        BothWrite x = new BothWrite();
        BothWrite y = new BothWrite();
        ahead.on(x);
        ahead.on(y);
        DUE.is(name, call.on(x), want);
        Alike.are(DUE, name + " refused", x, y);
    }

    private static void allowed(String name, Run ahead, Call call, int want) {
        BothWrite x = new BothWrite();
        ahead.on(x);
        DUE.is(name, call.on(x), want);
    }

    // ---- what stands ahead of a call

    private static void told(BothWrite x, String text) {
        Due.feed(x, text);
        if (x.net() < 0) {
            throw new IllegalArgumentException("a net with a fault: " + text);
        }
    }

    private static void nothing(BothWrite x) {
        DUE.is("fault() of a new object", x.fault(), NONE);
    }

    /** A game that goes on; a man of side 1 has fallen; a log, promises, an image, a standing, half a text. */
    private static void going(BothWrite x) {
        told(x, FALL);
        x.law(1);
        x.seed(77);
        x.move(FELLS, 0);
        x.keep(0);
        x.move(6, 2);
        x.log(0, 0);
        x.log(FELLS, NONE);
        x.promise(0, 0, 1, 0);
        x.promise(1, 1, 2, 1);
        x.stand(0, 0, 5);
        x.stand(1, 0, NONE);
        Due.feed(x, "fields 3;man 1 2");
    }

    /** Side 0 stands on the other's home. */
    private static void over(BothWrite x) {
        told(x, LINE);
        x.seed(9);
        x.keep(1);
        x.log(2, 0);
        x.promise(0, 0, 2, 0);
        x.move(2, 0);
        Due.feed(x, "fields 2");
    }

    /** The game is full and goes on. */
    private static void sixty(BothWrite x) {
        told(x, LINE);
        x.keep(0);
        for (int k = 0; k < 60; k++) {
            x.move(0, 0);
        }
    }

    /** The game is full, and its last move has won it. */
    private static void sixtyAndOver(BothWrite x) {
        told(x, LINE);
        for (int k = 0; k < 59; k++) {
            x.move(0, 0);
        }
        x.move(2, 0);
    }

    private static void threeOfSide0(BothWrite x) {
        told(x, "fields 5;way 0 1;way 1 2;man 0 1;man 0 2;man 0 0;man 1 4;");
    }

    private static void threeOfSide1(BothWrite x) {
        told(x, "fields 5;way 0 1;way 1 2;man 1 1;man 1 2;man 1 4;man 0 0;");
    }

    private static void fullLog(BothWrite x) {
        going(x);
        x.clear();
        for (int k = 0; k < 60; k++) {
            x.log(k % 3, NONE);
        }
    }

    private static void fullPromises(BothWrite x) {
        going(x);
        for (int k = 2; k < 8; k++) {
            x.promise(0, 0, k % 3, k % 4);
        }
    }

    /** A text of so many bytes, blanks behind a net. */
    private static void bytes(BothWrite x, int many) {
        going(x);
        x.net();
        Due.feed(x, "fields 7;man 0 3;");
        while (x.told(8) < many) {
            x.feed(1, ' ');
        }
    }

    // ---- terms, the net

    private static void constants() {
        DUE.sentence("NONE is -1. REFUSALS ... -1000001 and on");
        DUE.is("NONE", BothWrite.NONE, -1);
        DUE.is("UNKNOWN", BothWrite.UNKNOWN, -1000001);
        DUE.is("OUTSIDE", BothWrite.OUTSIDE, -1000002);
        DUE.is("NOT", BothWrite.NOT, -1000003);
        DUE.is("FULL", BothWrite.FULL, -1000004);
    }

    private static void feeds() {
        DUE.sentence("feed: n bytes (1 .. 8); OUTSIDE");
        for (int n : new int[] {0, 9, -1, 10, LEAST, MOST}) {
            refused("feed(" + n + ", 97)", RefusalTest::going, x -> x.feed(n, 97), OUTSIDE);
        }
        allowed("feed(1, 97)", RefusalTest::going, x -> x.feed(1, 97), 17);
        allowed("feed(8, 97)", RefusalTest::going, x -> x.feed(8, 97), 24);
    }

    private static void fullTexts() {
        DUE.sentence("feed: FULL (400)");
        allowed("feed(8) to 400", x -> bytes(x, 392), x -> x.feed(8, 0x2020202020202020L), 400);
        allowed("feed(1) to 400", x -> bytes(x, 399), x -> x.feed(1, 32), 400);
        refused("feed(1) to 401", x -> bytes(x, 400), x -> x.feed(1, 32), FULL);
        refused("feed(8) to 401", x -> bytes(x, 393), x -> x.feed(8, 0x2020202020202020L), FULL);
        refused("feed(2) to 401", x -> bytes(x, 399), x -> x.feed(2, 0x2020), FULL);
        refused("feed(9) of a full text", x -> bytes(x, 400), x -> x.feed(9, 32), OUTSIDE);
        refused("feed(0) of a full text", x -> bytes(x, 400), x -> x.feed(0, 32), OUTSIDE);
    }

    private static void tolds() {
        DUE.sentence("told: OUTSIDE");
        for (int what : new int[] {-1, 11, LEAST, MOST}) {
            refused("told(" + what + ")", RefusalTest::going, x -> x.told(what), OUTSIDE);
        }
        allowed("told(0)", RefusalTest::going, x -> x.told(0), 9);
        allowed("told(10)", RefusalTest::over, x -> x.told(10), 1);
    }

    private static void fieldsThatThereAreNot() {
        DUE.sentence("ways: UNKNOWN");
        for (int f : new int[] {-1, 9, 10, LEAST, MOST}) {
            refused("ways(" + f + ")", RefusalTest::going, x -> x.ways(f), UNKNOWN);
        }
        allowed("ways(0)", RefusalTest::going, x -> x.ways(0), 2 + 4 + 8);
        allowed("ways(8)", RefusalTest::going, x -> x.ways(8), 0);
        refused("ways(4) of four fields", RefusalTest::over, x -> x.ways(4), UNKNOWN);
        allowed("ways(3) of four fields", RefusalTest::over, x -> x.ways(3), 4);
    }

    private static void menThatThereAreNot() {
        DUE.sentence("man: UNKNOWN");
        for (int side : new int[] {-1, 2, LEAST, MOST}) {
            refused("man(" + side + ", 0)", RefusalTest::going, x -> x.man(side, 0), UNKNOWN);
        }
        for (int m : new int[] {-1, 2, 3, LEAST, MOST}) {
            refused("man(0, " + m + ")", RefusalTest::going, x -> x.man(0, m), UNKNOWN);
            refused("man(1, " + m + ")", RefusalTest::going, x -> x.man(1, m), UNKNOWN);
        }
        allowed("man(1, 0), fallen", RefusalTest::going, x -> x.man(1, 0), NONE);
        allowed("man(0, 0)", RefusalTest::going, x -> x.man(0, 0), 0);
        allowed("man(0, 2) of three", RefusalTest::threeOfSide0, x -> x.man(0, 2), 0);
        refused("man(0, 3) of three", RefusalTest::threeOfSide0, x -> x.man(0, 3), UNKNOWN);
        refused("man(1, 1) of one", RefusalTest::threeOfSide0, x -> x.man(1, 1), UNKNOWN);
        refused("man(1, 3) of three", RefusalTest::threeOfSide1, x -> x.man(1, 3), UNKNOWN);
    }

    private static void laws() {
        DUE.sentence("law: LAW becomes v (0 .. 2); OUTSIDE");
        for (int v : new int[] {-1, 3, LEAST, MOST}) {
            refused("law(" + v + ")", RefusalTest::going, x -> x.law(v), OUTSIDE);
        }
        allowed("law(0)", RefusalTest::going, x -> x.law(0), 1);
        allowed("law(2)", RefusalTest::going, x -> x.law(2), 1);
    }

    // ---- slips, moves

    private static void slips() {
        DUE.sentence("slip: UNKNOWN");
        for (int side : new int[] {-1, 2, LEAST, MOST}) {
            refused("slip(" + side + ", 0)", RefusalTest::going, x -> x.slip(side, 0), UNKNOWN);
            refused("slip(" + side + ", -1)", RefusalTest::going, x -> x.slip(side, -1), UNKNOWN);
        }
    }

    /** Slips of side 0 that may not be written as going() leaves it: men on 0, of three ways, and on 2, of two. */
    private static final int[] NOT_OF_SIDE_0 = {-2, 5, 3 * 6, 5 * 6, 4 + 3 * 6, 5 + 4 * 6, 36, 215, 216, LEAST, MOST};
    /** Slips of side 1 that may not be written as going() leaves it: a man on 4, which has one way. */
    private static final int[] NOT_OF_SIDE_1 = {-2, 2, 3, 4, 5, 6, 7, 36, 215, 216, LEAST, MOST};

    private static void movesThatAreNotWritten() {
        DUE.sentence("move: UNKNOWN");
        for (int slip : NOT_OF_SIDE_0) {
            refused("move(" + slip + ", 0)", RefusalTest::going, x -> x.move(slip, 0), UNKNOWN);
        }
        for (int slip : NOT_OF_SIDE_1) {
            refused("move(0, " + slip + ")", RefusalTest::going, x -> x.move(0, slip), UNKNOWN);
        }
        allowed("move(28, 1), the greatest of both", RefusalTest::going, x -> x.move(4 + 4 * 6, 1), 0);
        allowed("move(-1, -1)", RefusalTest::going, x -> x.move(NONE, NONE), 0);
    }

    private static void movesWhenOver() {
        DUE.sentence("move: NOT: it is over");
        refused("move(0, 0)", RefusalTest::over, x -> x.move(0, 0), NOT);
        refused("move(-1, -1)", RefusalTest::over, x -> x.move(NONE, NONE), NOT);
        refused("move(2, 0) of no such way", RefusalTest::over, x -> x.move(2, 0), UNKNOWN);
        refused("move(0, 3) of no such way", RefusalTest::over, x -> x.move(0, 3), UNKNOWN);
    }

    private static void movesWhenFull() {
        DUE.sentence("move: FULL (60)");
        refused("a 61st", RefusalTest::sixty, x -> x.move(0, 0), FULL);
        refused("a 61st, late", RefusalTest::sixty, x -> x.move(NONE, NONE), FULL);
        refused("a 61st that there is not", RefusalTest::sixty, x -> x.move(3, 0), UNKNOWN);
        refused("a 61st that there is not, of side 1", RefusalTest::sixty, x -> x.move(0, 3), UNKNOWN);
        refused("a 61st when it is over", RefusalTest::sixtyAndOver, x -> x.move(0, 0), NOT);
        allowed("sixty were made", RefusalTest::sixty, x -> x.told(5), 60);
        allowed("the 60th won", RefusalTest::sixtyAndOver, x -> x.told(10), 1);
    }

    private static void driftsOutside() {
        DUE.sentence("drift: n MOVES (1 .. 60); OUTSIDE");
        for (int n : new int[] {0, 61, -1, LEAST, MOST}) {
            refused("drift(" + n + ")", RefusalTest::going, x -> x.drift(n), OUTSIDE);
            refused("drift(" + n + ") when it is over", RefusalTest::over, x -> x.drift(n), OUTSIDE);
            refused("drift(" + n + ") when it is full", RefusalTest::sixty, x -> x.drift(n), OUTSIDE);
        }
        Run still = x -> told(x, "fields 4;man 0 1;man 1 2;");
        allowed("drift(1)", still, x -> x.drift(1) + x.told(5), 1);
        allowed("drift(60)", still, x -> x.drift(60) + x.told(5), 60);
    }

    private static void driftsNot() {
        DUE.sentence("drift: NOT, as in move()");
        refused("drift(1)", RefusalTest::over, x -> x.drift(1), NOT);
        refused("drift(60)", RefusalTest::over, x -> x.drift(60), NOT);
        refused("drift(1) when it is full, too", RefusalTest::sixtyAndOver, x -> x.drift(1), NOT);
    }

    private static void driftsFull() {
        DUE.sentence("drift: FULL: 60 by then (what went is done)");
        refused("drift(1) behind sixty", RefusalTest::sixty, x -> x.drift(1), FULL);
        refused("drift(60) behind sixty", RefusalTest::sixty, x -> x.drift(60), FULL);
        for (int ahead = 57; ahead <= 59; ahead++) {
            int moves = ahead;
            Run still = x -> {
                told(x, "fields 4;man 0 1;man 1 2;");
                x.drift(moves);
            };
            int left = 60 - moves;
            allowed(left + " more behind " + moves, still, x -> x.drift(left), 0);
            allowed(left + 1 + " more behind " + moves, still, x -> x.drift(left + 1), FULL);
            // what went is done: the moves, and the draws of the seed
            BothWrite x = new BothWrite();
            BothWrite y = new BothWrite();
            still.on(x);
            still.on(y);
            x.drift(left + 1);
            y.drift(left);
            Alike.are(DUE, "drift to 61 is as drift to 60", x, y);
        }
    }

    private static void triedSlips() {
        DUE.sentence("tried: UNKNOWN, of a SLIP");
        for (int slip : NOT_OF_SIDE_0) {
            refused("tried(" + slip + ", 0, 0)", RefusalTest::going, x -> x.tried(slip, 0, 0), UNKNOWN);
        }
        for (int slip : NOT_OF_SIDE_1) {
            refused("tried(0, " + slip + ", 0)", RefusalTest::going, x -> x.tried(0, slip, 0), UNKNOWN);
        }
        refused("tried(5, 0, 7)", RefusalTest::going, x -> x.tried(5, 0, 7), UNKNOWN);
        refused("tried(0, 2, -1)", RefusalTest::going, x -> x.tried(0, 2, -1), UNKNOWN);
        refused("tried(2, 0, 0) when it is over", RefusalTest::over, x -> x.tried(2, 0, 0), UNKNOWN);
        allowed("tried(28, 1, 0)", RefusalTest::going, x -> x.tried(4 + 4 * 6, 1, 0), 0);
        allowed("tried when it is full", RefusalTest::sixty, x -> x.tried(2, 0, 0), 1);
    }

    private static void triedMen() {
        DUE.sentence("tried: UNKNOWN, of a MAN");
        refused("tried(0, 0, 3), of two men", RefusalTest::going, x -> x.tried(0, 0, 3), UNKNOWN);
        refused("tried(0, 0, 6), of two men", RefusalTest::going, x -> x.tried(0, 0, 6), UNKNOWN);
        refused("tried(0, 0, 2), of one man", RefusalTest::over, x -> x.tried(0, 0, 2), UNKNOWN);
        refused("tried(0, 0, 5), of one man", RefusalTest::over, x -> x.tried(0, 0, 5), UNKNOWN);
        refused("tried(0, 0, 1), of none", RefusalTest::nothing, x -> x.tried(0, 0, 1), UNKNOWN);
        refused("tried(0, 0, 4), of none", RefusalTest::nothing, x -> x.tried(0, 0, 4), UNKNOWN);
        allowed("tried(0, 0, 4), fallen", RefusalTest::going, x -> x.tried(0, 0, 4), NONE);
        allowed("tried(0, 0, 3), of three", RefusalTest::threeOfSide0, x -> x.tried(0, 0, 3), 0);
        allowed("tried(0, 0, 6), of three", RefusalTest::threeOfSide1, x -> x.tried(0, 0, 6), 4);
    }

    private static void triedWhat() {
        DUE.sentence("tried: OUTSIDE (0 .. 6), NOT: it is over");
        for (int what : new int[] {-1, 7, LEAST, MOST}) {
            refused("tried(0, 0, " + what + ")", RefusalTest::going, x -> x.tried(0, 0, what), OUTSIDE);
            refused("tried(0, 0, " + what + ") when it is over", RefusalTest::over, x -> x.tried(0, 0, what), OUTSIDE);
        }
        refused("tried(0, 0, 0)", RefusalTest::over, x -> x.tried(0, 0, 0), NOT);
        refused("tried(0, 0, 1)", RefusalTest::over, x -> x.tried(0, 0, 1), NOT);
        refused("tried(-1, -1, 4)", RefusalTest::over, x -> x.tried(NONE, NONE, 4), NOT);
    }

    // ---- tables, lots

    private static void pays() {
        DUE.sentence("pays: UNKNOWN, NOT: it is over");
        for (int slip : NOT_OF_SIDE_0) {
            refused("pays(" + slip + ", 0)", RefusalTest::going, x -> x.pays(slip, 0), UNKNOWN);
        }
        for (int slip : NOT_OF_SIDE_1) {
            refused("pays(0, " + slip + ")", RefusalTest::going, x -> x.pays(0, slip), UNKNOWN);
        }
        refused("pays(0, 0)", RefusalTest::over, x -> x.pays(0, 0), NOT);
        refused("pays(-1, -1)", RefusalTest::over, x -> x.pays(NONE, NONE), NOT);
        refused("pays(2, 0) when it is over", RefusalTest::over, x -> x.pays(2, 0), UNKNOWN);
        refused("pays(0, 3) when it is over", RefusalTest::over, x -> x.pays(0, 3), UNKNOWN);
        allowed("pays(28, 1), two against one", RefusalTest::going, x -> x.pays(4 + 4 * 6, 1), 600);
        allowed("pays(0, 0) of three men", RefusalTest::threeOfSide0, x -> x.pays(0, 0), 700);
    }

    private static void safes() {
        DUE.sentence("safe: UNKNOWN, OUTSIDE, NOT: it is over");
        for (int side : new int[] {-1, 2, LEAST, MOST}) {
            refused("safe(" + side + ", 0)", RefusalTest::going, x -> x.safe(side, 0), UNKNOWN);
            refused("safe(" + side + ", 2)", RefusalTest::going, x -> x.safe(side, 2), UNKNOWN);
            refused("safe(" + side + ", 0) when it is over", RefusalTest::over, x -> x.safe(side, 0), UNKNOWN);
        }
        for (int what : new int[] {-1, 2, LEAST, MOST}) {
            refused("safe(0, " + what + ")", RefusalTest::going, x -> x.safe(0, what), OUTSIDE);
            refused("safe(1, " + what + ") when it is over", RefusalTest::over, x -> x.safe(1, what), OUTSIDE);
        }
        for (int side = 0; side < 2; side++) {
            int s = side;
            refused("safe(" + s + ", 0)", RefusalTest::over, x -> x.safe(s, 0), NOT);
            refused("safe(" + s + ", 1)", RefusalTest::over, x -> x.safe(s, 1), NOT);
        }
    }

    private static void answers() {
        DUE.sentence("answer: UNKNOWN, NOT, as in safe()");
        for (int side : new int[] {-1, 2, LEAST, MOST}) {
            refused("answer(" + side + ", 0)", RefusalTest::going, x -> x.answer(side, 0), UNKNOWN);
            refused("answer(" + side + ", 0) when it is over", RefusalTest::over, x -> x.answer(side, 0), UNKNOWN);
        }
        refused("answer(0, -1)", RefusalTest::going, x -> x.answer(0, NONE), UNKNOWN);
        refused("answer(1, -1)", RefusalTest::going, x -> x.answer(1, NONE), UNKNOWN);
        for (int slip : NOT_OF_SIDE_0) {
            refused("answer(1, " + slip + ")", RefusalTest::going, x -> x.answer(1, slip), UNKNOWN);
        }
        for (int slip : NOT_OF_SIDE_1) {
            refused("answer(0, " + slip + ")", RefusalTest::going, x -> x.answer(0, slip), UNKNOWN);
        }
        refused("answer(0, 0)", RefusalTest::over, x -> x.answer(0, 0), NOT);
        refused("answer(1, 0)", RefusalTest::over, x -> x.answer(1, 0), NOT);
        refused("answer(1, 2) when it is over", RefusalTest::over, x -> x.answer(1, 2), UNKNOWN);
        // to a slip of the other that it could not write itself
        allowed("answer(1, 28)", RefusalTest::going, x -> x.answer(1, 4 + 4 * 6), 0);
    }

    private static void bounds() {
        DUE.sentence("bounds: r (1 .. 200); OUTSIDE, NOT, as in safe()");
        for (int r : new int[] {0, 201, -1, LEAST, MOST}) {
            refused("bounds(" + r + ", 0)", RefusalTest::going, x -> x.bounds(r, 0), OUTSIDE);
            refused("bounds(" + r + ", 1) when it is over", RefusalTest::over, x -> x.bounds(r, 1), OUTSIDE);
        }
        for (int what : new int[] {-1, 2, LEAST, MOST}) {
            refused("bounds(1, " + what + ")", RefusalTest::going, x -> x.bounds(1, what), OUTSIDE);
            refused("bounds(1, " + what + ") when it is over", RefusalTest::over, x -> x.bounds(1, what), OUTSIDE);
        }
        for (int r : new int[] {1, 200}) {
            refused("bounds(" + r + ", 0)", RefusalTest::over, x -> x.bounds(r, 0), NOT);
            refused("bounds(" + r + ", 1)", RefusalTest::over, x -> x.bounds(r, 1), NOT);
            // side 0 stays one man ahead: whatever is written pays 600
            allowed("bounds(" + r + ", 0)", RefusalTest::going, x -> x.bounds(r, 0), 600);
            allowed("bounds(" + r + ", 1)", RefusalTest::going, x -> x.bounds(r, 1), 600);
        }
    }

    private static void shares() {
        DUE.sentence("share: UNKNOWN, OUTSIDE, NOT, as in safe()");
        for (int side : new int[] {-1, 2, LEAST, MOST}) {
            refused("share(" + side + ", 0, 1)", RefusalTest::going, x -> x.share(side, 0, 1), UNKNOWN);
            refused("share(" + side + ", 0, 0)", RefusalTest::going, x -> x.share(side, 0, 0), UNKNOWN);
        }
        refused("share(0, -1, 1)", RefusalTest::going, x -> x.share(0, NONE, 1), UNKNOWN);
        refused("share(1, -1, 1)", RefusalTest::going, x -> x.share(1, NONE, 1), UNKNOWN);
        for (int slip : NOT_OF_SIDE_0) {
            refused("share(0, " + slip + ", 1)", RefusalTest::going, x -> x.share(0, slip, 1), UNKNOWN);
        }
        for (int slip : NOT_OF_SIDE_1) {
            refused("share(1, " + slip + ", 1)", RefusalTest::going, x -> x.share(1, slip, 1), UNKNOWN);
        }
        refused("share(0, 5, 201)", RefusalTest::going, x -> x.share(0, 5, 201), UNKNOWN);
        refused("share(0, 2, 1) when it is over", RefusalTest::over, x -> x.share(0, 2, 1), UNKNOWN);
        for (int r : new int[] {0, 201, -1, LEAST, MOST}) {
            refused("share(0, 0, " + r + ")", RefusalTest::going, x -> x.share(0, 0, r), OUTSIDE);
            refused("share(1, 0, " + r + ") when it is over", RefusalTest::over, x -> x.share(1, 0, r), OUTSIDE);
        }
        refused("share(0, 0, 1)", RefusalTest::over, x -> x.share(0, 0, 1), NOT);
        refused("share(1, 0, 200)", RefusalTest::over, x -> x.share(1, 0, 200), NOT);
        allowed("share(0, 0, 1)", RefusalTest::going, x -> x.share(0, 0, 1), 1);
        allowed("share(0, 0, 200)", RefusalTest::going, x -> x.share(0, 0, 200), 200);
        allowed("share(0, 28, 200)", RefusalTest::going, x -> x.share(0, 4 + 4 * 6, 200), 0);
    }

    private static void threeMen() {
        DUE.sentence("TABLES are of SIDES with 2 MEN at most, else NOT");
        threeMen("three of side 0", RefusalTest::threeOfSide0);
        threeMen("three of side 1", RefusalTest::threeOfSide1);
        Run twoAndTwo = x -> told(x, "fields 5;way 0 1;way 1 2;man 0 1;man 0 0;man 1 2;man 1 4;");
        for (int side = 0; side < 2; side++) {
            int s = side;
            allowed("two and two: safe(" + s + ", 1)", twoAndTwo, x -> x.safe(s, 1), 500);
            allowed("two and two: answer(" + s + ", 0)", twoAndTwo, x -> x.answer(s, 0), 0);
            allowed("two and two: bounds(2, " + s + ")", twoAndTwo, x -> x.bounds(2, s), 500);
            allowed("two and two: share(" + s + ", 0, 2)", twoAndTwo, x -> x.share(s, 0, 2), 2);
        }
        allowed("two and two: written(0, 1)", twoAndTwo, x -> x.written(0, 1), 0);
        // the third falls: then there are two
        Run fallsToTwo = x -> {
            told(x, "fields 9;home 7 8;way 0 1;way 0 2;way 0 3;way 1 2;man 0 1;man 0 2;man 1 0;man 1 3;man 1 6;");
            x.move(FELLS, 0);
        };
        allowed("three, one of them fallen: safe(0, 1)", fallsToTwo, x -> x.safe(0, 1) == NOT ? NOT : 0, 0);
        allowed("three, one of them fallen: written(-1, 0)", fallsToTwo, x -> x.written(NONE, 0), 0);
    }

    private static void threeMen(String name, Run three) {
        for (int side = 0; side < 2; side++) {
            int s = side;
            refused(name + ": safe(" + s + ", 0)", three, x -> x.safe(s, 0), NOT);
            refused(name + ": answer(" + s + ", 0)", three, x -> x.answer(s, 0), NOT);
            refused(name + ": bounds(1, " + s + ")", three, x -> x.bounds(1, s), NOT);
            refused(name + ": share(" + s + ", 0, 1)", three, x -> x.share(s, 0, 1), NOT);
            refused(name + ": written(0, " + s + ")", three, x -> x.written(0, s), NOT);
            refused(name + ": answer(" + s + ", 216)", three, x -> x.answer(s, 216), UNKNOWN);
            refused(name + ": share(" + s + ", 216, 1)", three, x -> x.share(s, 216, 1), UNKNOWN);
            refused(name + ": share(" + s + ", 0, 0)", three, x -> x.share(s, 0, 0), OUTSIDE);
            refused(name + ": safe(" + s + ", 2)", three, x -> x.safe(s, 2), OUTSIDE);
        }
        refused(name + ": safe(2, 0)", three, x -> x.safe(2, 0), UNKNOWN);
        refused(name + ": bounds(201, 0)", three, x -> x.bounds(201, 0), OUTSIDE);
        refused(name + ": written(0, 2)", three, x -> x.written(0, 2), OUTSIDE);
        refused(name + ": written(-1, 0)", three, x -> x.written(NONE, 0), NOT);
        refused(name + ": written(-2, 0)", three, x -> x.written(-2, 0), NOT);
    }

    // ---- duels

    private static void duels() {
        DUE.sentence("duel: UNKNOWN (a like b), OUTSIDE (n 0 .. 12)");
        for (int f : new int[] {-1, 4, LEAST, MOST}) {
            refused("duel(" + f + ", 2, 1)", RefusalTest::over, x -> x.duel(f, 2, 1), UNKNOWN);
            refused("duel(2, " + f + ", 1)", RefusalTest::over, x -> x.duel(2, f, 1), UNKNOWN);
            refused("duel(2, " + f + ", 13)", RefusalTest::over, x -> x.duel(2, f, 13), UNKNOWN);
        }
        refused("duel(0, 0, 1)", RefusalTest::over, x -> x.duel(0, 0, 1), UNKNOWN);
        refused("duel(3, 3, 1)", RefusalTest::over, x -> x.duel(3, 3, 1), UNKNOWN);
        refused("duel(3, 3, -1)", RefusalTest::over, x -> x.duel(3, 3, -1), UNKNOWN);
        refused("duel(9, 8, 1)", RefusalTest::going, x -> x.duel(9, 8, 1), UNKNOWN);
        for (int n : new int[] {-1, 13, LEAST, MOST}) {
            refused("duel(1, 2, " + n + ")", RefusalTest::over, x -> x.duel(1, 2, n), OUTSIDE);
            refused("duel(3, 2, " + n + "), won", RefusalTest::over, x -> x.duel(3, 2, n), OUTSIDE);
        }
        allowed("duel(1, 2, 0)", RefusalTest::over, x -> x.duel(1, 2, 0), 500);
        allowed("duel(1, 2, 12)", RefusalTest::over, x -> x.duel(1, 2, 12), 500);
        allowed("duel(3, 0, 12), fields at both ends", RefusalTest::over, x -> x.duel(3, 0, 12), 500);
        allowed("duel(0, 3, 12), fields at both ends", RefusalTest::over, x -> x.duel(0, 3, 12), 500);
    }

    private static void lotsUnknown() {
        DUE.sentence("lot: UNKNOWN (a like b, too)");
        for (int f : new int[] {-1, 4, LEAST, MOST}) {
            refused("lot(" + f + ", 2, 1, 0, 0)", RefusalTest::over, x -> x.lot(f, 2, 1, 0, 0), UNKNOWN);
            refused("lot(2, " + f + ", 1, 0, 0)", RefusalTest::over, x -> x.lot(2, f, 1, 0, 0), UNKNOWN);
            refused("lot(2, " + f + ", 0, 0, 4)", RefusalTest::over, x -> x.lot(2, f, 0, 0, 4), UNKNOWN);
        }
        refused("lot(1, 1, 1, 0, 0)", RefusalTest::over, x -> x.lot(1, 1, 1, 0, 0), UNKNOWN);
        refused("lot(3, 3, 13, 0, 0)", RefusalTest::over, x -> x.lot(3, 3, 13, 0, 0), UNKNOWN);
        for (int side : new int[] {-1, 2, LEAST, MOST}) {
            refused("lot(1, 2, 1, " + side + ", 0)", RefusalTest::over, x -> x.lot(1, 2, 1, side, 0), UNKNOWN);
            refused("lot(1, 2, 0, " + side + ", 4)", RefusalTest::over, x -> x.lot(1, 2, 0, side, 4), UNKNOWN);
            refused("lot(3, 2, 1, " + side + ", 0), won", RefusalTest::over, x -> x.lot(3, 2, 1, side, 0), UNKNOWN);
        }
    }

    private static void lotsOutside() {
        DUE.sentence("lot: an ORDER (0 .. 3), n 1 .. 12; OUTSIDE");
        for (int n : new int[] {0, 13, -1, LEAST, MOST}) {
            refused("lot(1, 2, " + n + ", 0, 0)", RefusalTest::over, x -> x.lot(1, 2, n, 0, 0), OUTSIDE);
            refused("lot(3, 2, " + n + ", 0, 0), won", RefusalTest::over, x -> x.lot(3, 2, n, 0, 0), OUTSIDE);
        }
        for (int order : new int[] {-1, 4, LEAST, MOST}) {
            refused("lot(1, 2, 1, 0, " + order + ")", RefusalTest::over, x -> x.lot(1, 2, 1, 0, order), OUTSIDE);
            refused("lot(1, 2, 1, 1, " + order + ")", RefusalTest::over, x -> x.lot(1, 2, 1, 1, order), OUTSIDE);
            refused("lot(3, 2, 1, 0, " + order + "), won", RefusalTest::over, x -> x.lot(3, 2, 1, 0, order), OUTSIDE);
        }
        for (int n : new int[] {1, 12}) {
            allowed("lot(1, 2, " + n + ", 0, 0)", RefusalTest::over, x -> x.lot(1, 2, n, 0, 0), 1000000);
            allowed("lot(1, 2, " + n + ", 1, 3), no such way", RefusalTest::over, x -> x.lot(1, 2, n, 1, 3), 0);
        }
    }

    private static void lotsNot() {
        DUE.sentence("lot: NOT: it is WON or DRAWN as it stands");
        for (int n : new int[] {1, 12}) {
            refused("lot(3, 2, " + n + ", 0, 0), won by side 0", RefusalTest::over, x -> x.lot(3, 2, n, 0, 0), NOT);
            refused("lot(1, 0, " + n + ", 1, 3), won by side 1", RefusalTest::over, x -> x.lot(1, 0, n, 1, 3), NOT);
            refused("lot(3, 0, " + n + ", 0, 1), drawn", RefusalTest::over, x -> x.lot(3, 0, n, 0, 1), NOT);
        }
        allowed("lot(0, 3, 1, 0, 0), each on its own home", RefusalTest::over, x -> x.lot(0, 3, 1, 0, 0), 1000000);
    }

    // ---- results, games

    private static void stands() {
        DUE.sentence("stand: UNKNOWN");
        for (int side : new int[] {-1, 2, LEAST, MOST}) {
            refused("stand(" + side + ", 0, 0)", RefusalTest::going, x -> x.stand(side, 0, 0), UNKNOWN);
        }
        for (int m : new int[] {-1, 2, 3, LEAST, MOST}) {
            refused("stand(0, " + m + ", 0)", RefusalTest::going, x -> x.stand(0, m, 0), UNKNOWN);
            refused("stand(1, " + m + ", -1)", RefusalTest::going, x -> x.stand(1, m, NONE), UNKNOWN);
        }
        for (int f : new int[] {-2, 9, 10, LEAST, MOST}) {
            refused("stand(0, 0, " + f + ")", RefusalTest::going, x -> x.stand(0, 0, f), UNKNOWN);
            refused("stand(1, 1, " + f + ")", RefusalTest::going, x -> x.stand(1, 1, f), UNKNOWN);
        }
        refused("stand(0, 0, 4) of four fields", RefusalTest::over, x -> x.stand(0, 0, 4), UNKNOWN);
        refused("stand(1, 1, 0) of one man", RefusalTest::over, x -> x.stand(1, 1, 0), UNKNOWN);
        allowed("stand(0, 0, 8)", RefusalTest::going, x -> x.stand(0, 0, 8), 5);
        allowed("stand(0, 1, 0)", RefusalTest::going, x -> x.stand(0, 1, 0), 2);
        allowed("stand(1, 0, -1), fallen", RefusalTest::going, x -> x.stand(1, 0, NONE), NONE);
        allowed("stand(0, 2, 4) of three", RefusalTest::threeOfSide0, x -> x.stand(0, 2, 4), 0);
        allowed("stand when it is over", RefusalTest::over, x -> x.stand(0, 0, 3), 2);
    }

    private static void writtens() {
        DUE.sentence("written: OUTSIDE (what, with i = NONE, too), NOT, as in safe()");
        for (int what : new int[] {-1, 2, LEAST, MOST}) {
            for (int i : new int[] {NONE, 0, -2}) {
                refused("written(" + i + ", " + what + ")", RefusalTest::going, x -> x.written(i, what), OUTSIDE);
                refused("written(" + i + ", " + what + ") when it is over", RefusalTest::over, x -> x.written(i, what), OUTSIDE);
            }
        }
        for (int i : new int[] {NONE, 0, -2, MOST}) {
            refused("written(" + i + ", 0)", RefusalTest::over, x -> x.written(i, 0), NOT);
            refused("written(" + i + ", 1)", RefusalTest::over, x -> x.written(i, 1), NOT);
        }
    }

    private static void games() {
        DUE.sentence("game: OUTSIDE");
        for (int what : new int[] {-1, 2, LEAST, MOST}) {
            for (int i : new int[] {0, 1, 2, -1, MOST}) {
                refused("game(" + i + ", " + what + ")", RefusalTest::going, x -> x.game(i, what), OUTSIDE);
            }
        }
        allowed("game(1, 0)", RefusalTest::going, x -> x.game(1, 0), 6);
        allowed("game(1, 1)", RefusalTest::going, x -> x.game(1, 1), 2);
    }

    private static void logsOutside() {
        DUE.sentence("log: 0 .. 215 each, NONE; OUTSIDE");
        for (int slip : new int[] {-2, 216, LEAST, MOST}) {
            refused("log(" + slip + ", 0)", RefusalTest::going, x -> x.log(slip, 0), OUTSIDE);
            refused("log(0, " + slip + ")", RefusalTest::going, x -> x.log(0, slip), OUTSIDE);
            refused("log(-1, " + slip + ")", RefusalTest::going, x -> x.log(NONE, slip), OUTSIDE);
            refused("log(" + slip + ", 0) of a full log", RefusalTest::fullLog, x -> x.log(slip, 0), OUTSIDE);
            refused("log(0, " + slip + ") of a full log", RefusalTest::fullLog, x -> x.log(0, slip), OUTSIDE);
        }
        for (int slip : new int[] {NONE, 0, 215}) {
            allowed("log(" + slip + ", 0)", RefusalTest::going, x -> x.log(slip, 0), 3);
            allowed("log(0, " + slip + ")", RefusalTest::going, x -> x.log(0, slip), 3);
        }
        allowed("log(0, 0) when it is over", RefusalTest::over, x -> x.log(0, 0), 2);
        allowed("log(215, 215) without a net", RefusalTest::nothing, x -> x.log(215, 215), 1);
    }

    private static void logsFull() {
        DUE.sentence("log: FULL (60)");
        Run less = x -> {
            going(x);
            for (int k = 2; k < 59; k++) {
                x.log(0, 0);
            }
        };
        allowed("a 60th", less, x -> x.log(215, NONE), 60);
        refused("a 61st", RefusalTest::fullLog, x -> x.log(0, 0), FULL);
        refused("a 61st, late", RefusalTest::fullLog, x -> x.log(NONE, NONE), FULL);
    }

    private static void replays() {
        DUE.sentence("replayed: UNKNOWN");
        for (int side : new int[] {-1, 2, LEAST, MOST}) {
            refused("replayed(" + side + ", 0)", RefusalTest::going, x -> x.replayed(side, 0), UNKNOWN);
        }
        for (int m : new int[] {-1, 2, 3, LEAST, MOST}) {
            refused("replayed(0, " + m + ")", RefusalTest::going, x -> x.replayed(0, m), UNKNOWN);
            refused("replayed(1, " + m + ")", RefusalTest::going, x -> x.replayed(1, m), UNKNOWN);
        }
        // by law 1 and the log of going(): nothing, then the man on 0 falls
        allowed("replayed(0, 1)", RefusalTest::going, x -> x.replayed(0, 1), 2);
        allowed("replayed(1, 0), fallen", RefusalTest::going, x -> x.replayed(1, 0), NONE);
        allowed("replayed(0, 2) of three", RefusalTest::threeOfSide0, x -> x.replayed(0, 2), 0);
    }

    private static void promisesUnknown() {
        DUE.sentence("promise: UNKNOWN (MAN)");
        for (int side : new int[] {-1, 2, LEAST, MOST}) {
            refused("promise(" + side + ", 0, 0, 0)", RefusalTest::going, x -> x.promise(side, 0, 0, 0), UNKNOWN);
            refused("promise(" + side + ", 0, 6, 60)", RefusalTest::going, x -> x.promise(side, 0, 6, 60), UNKNOWN);
        }
        for (int m : new int[] {-1, 2, 3, LEAST, MOST}) {
            refused("promise(0, " + m + ", 0, 0)", RefusalTest::going, x -> x.promise(0, m, 0, 0), UNKNOWN);
            refused("promise(1, " + m + ", -1, 0)", RefusalTest::going, x -> x.promise(1, m, -1, 0), UNKNOWN);
            refused("promise(1, " + m + ", 0, 0) of eight", RefusalTest::fullPromises, x -> x.promise(1, m, 0, 0), UNKNOWN);
        }
        allowed("promise(1, 0, 0, 0), fallen", RefusalTest::going, x -> x.promise(1, 0, 0, 0), 2);
        allowed("promise(0, 2, 0, 0) of three", RefusalTest::threeOfSide0, x -> x.promise(0, 2, 0, 0), 0);
    }

    private static void promisesOutside() {
        DUE.sentence("promise: OUTSIDE (ORDER 0 .. 5, MOVE 0 .. 59)");
        for (int order : new int[] {-1, 6, LEAST, MOST}) {
            refused("promise(0, 0, " + order + ", 0)", RefusalTest::going, x -> x.promise(0, 0, order, 0), OUTSIDE);
            refused("promise(0, 0, " + order + ", 0) of eight", RefusalTest::fullPromises, x -> x.promise(0, 0, order, 0), OUTSIDE);
        }
        for (int move : new int[] {-1, 60, LEAST, MOST}) {
            refused("promise(1, 0, 0, " + move + ")", RefusalTest::going, x -> x.promise(1, 0, 0, move), OUTSIDE);
            refused("promise(1, 0, 0, " + move + ") of eight", RefusalTest::fullPromises, x -> x.promise(1, 0, 0, move), OUTSIDE);
        }
        for (int order : new int[] {0, 5}) {
            allowed("promise(0, 0, " + order + ", 0)", RefusalTest::going, x -> x.promise(0, 0, order, 0), 2);
            allowed("promise(0, 0, " + order + ", 59)", RefusalTest::going, x -> x.promise(0, 0, order, 59), 2);
        }
    }

    private static void promisesFull() {
        DUE.sentence("promise: FULL (8)");
        Run seven = x -> {
            going(x);
            for (int k = 2; k < 7; k++) {
                x.promise(0, 0, 0, k);
            }
        };
        allowed("an eighth", seven, x -> x.promise(0, 0, 0, 0), 7);
        refused("a ninth", RefusalTest::fullPromises, x -> x.promise(0, 0, 0, 0), FULL);
        refused("a ninth, of another", RefusalTest::fullPromises, x -> x.promise(1, 1, 5, 59), FULL);
    }

    private static void kepts() {
        DUE.sentence("kept: UNKNOWN");
        for (int i : new int[] {-1, 2, 8, LEAST, MOST}) {
            refused("kept(" + i + ") of two", RefusalTest::going, x -> x.kept(i), UNKNOWN);
        }
        refused("kept(0) of none", RefusalTest::nothing, x -> x.kept(0), UNKNOWN);
        refused("kept(8) of eight", RefusalTest::fullPromises, x -> x.kept(8), UNKNOWN);
        allowed("kept(0) of two", RefusalTest::going, x -> x.kept(0), 1);
        allowed("kept(1) of two", RefusalTest::going, x -> x.kept(1), 1);
    }

    private static void seeds() {
        DUE.sentence("seed: v (0 .. 2147483647); OUTSIDE");
        refused("seed(-1)", RefusalTest::going, x -> x.seed(-1), OUTSIDE);
        refused("seed(least)", RefusalTest::going, x -> x.seed(LEAST), OUTSIDE);
        allowed("seed(0)", RefusalTest::going, x -> x.seed(0), 77);
        allowed("seed(most)", RefusalTest::going, x -> x.seed(MOST), 77);
        allowed("seed(most) is kept", RefusalTest::going, x -> x.seed(MOST) + x.seed(0) - 77, MOST);
    }

    private static void images() {
        DUE.sentence("keep, goBack: UNKNOWN; NOT: it was not kept");
        for (int i : new int[] {-1, 2, LEAST, MOST}) {
            refused("keep(" + i + ")", RefusalTest::going, x -> x.keep(i), UNKNOWN);
            refused("goBack(" + i + ")", RefusalTest::going, x -> x.goBack(i), UNKNOWN);
        }
        refused("goBack(1), the other is kept", RefusalTest::going, x -> x.goBack(1), NOT);
        refused("goBack(0), the other is kept", RefusalTest::over, x -> x.goBack(0), NOT);
        refused("goBack(0) of a new object", RefusalTest::nothing, x -> x.goBack(0), NOT);
        refused("goBack(1) of a new object", RefusalTest::nothing, x -> x.goBack(1), NOT);
        allowed("goBack(0)", RefusalTest::going, x -> x.goBack(0), 1);
        allowed("goBack(1)", RefusalTest::over, x -> x.goBack(1), 1);
    }

    /** Every call has an answer where there is nothing yet: no field, no man, a game that is drawn. */
    private static void nothingOfANewObject() {
        DUE.sentence("BothWrite(): No FIELDS");
        refused("move(0, 0)", RefusalTest::nothing, x -> x.move(0, 0), NOT);
        refused("move(1, 0)", RefusalTest::nothing, x -> x.move(1, 0), UNKNOWN);
        refused("move(0, 1)", RefusalTest::nothing, x -> x.move(0, 1), UNKNOWN);
        refused("drift(1)", RefusalTest::nothing, x -> x.drift(1), NOT);
        refused("tried(0, 0, 0)", RefusalTest::nothing, x -> x.tried(0, 0, 0), NOT);
        refused("pays(0, 0)", RefusalTest::nothing, x -> x.pays(0, 0), NOT);
        refused("safe(0, 0)", RefusalTest::nothing, x -> x.safe(0, 0), NOT);
        refused("answer(0, 0)", RefusalTest::nothing, x -> x.answer(0, 0), NOT);
        refused("answer(0, 1)", RefusalTest::nothing, x -> x.answer(0, 1), UNKNOWN);
        refused("bounds(1, 0)", RefusalTest::nothing, x -> x.bounds(1, 0), NOT);
        refused("share(1, 0, 1)", RefusalTest::nothing, x -> x.share(1, 0, 1), NOT);
        refused("duel(0, 1, 0)", RefusalTest::nothing, x -> x.duel(0, 1, 0), UNKNOWN);
        refused("lot(0, 1, 1, 0, 0)", RefusalTest::nothing, x -> x.lot(0, 1, 1, 0, 0), UNKNOWN);
        refused("stand(0, 0, -1)", RefusalTest::nothing, x -> x.stand(0, 0, NONE), UNKNOWN);
        refused("written(-1, 0)", RefusalTest::nothing, x -> x.written(NONE, 0), NOT);
        refused("replayed(0, 0)", RefusalTest::nothing, x -> x.replayed(0, 0), UNKNOWN);
        refused("promise(0, 0, 0, 0)", RefusalTest::nothing, x -> x.promise(0, 0, 0, 0), UNKNOWN);
        refused("ways(0)", RefusalTest::nothing, x -> x.ways(0), UNKNOWN);
        refused("man(0, 0)", RefusalTest::nothing, x -> x.man(0, 0), UNKNOWN);
        allowed("game(0, 0)", RefusalTest::nothing, x -> x.game(0, 0), NONE);
        allowed("judge()", RefusalTest::nothing, x -> x.judge(), NONE);
        allowed("clear()", RefusalTest::nothing, x -> x.clear(), 0);
        allowed("begin()", RefusalTest::nothing, x -> x.begin(), 0);
        allowed("slip(0, -1)", RefusalTest::nothing, x -> x.slip(0, NONE), 1);
        allowed("slip(1, 0)", RefusalTest::nothing, x -> x.slip(1, 0), 0);
        allowed("slip(1, 1)", RefusalTest::nothing, x -> x.slip(1, 1), NONE);
        allowed("seed(1)", RefusalTest::nothing, x -> x.seed(1), 0);
        allowed("law(1)", RefusalTest::nothing, x -> x.law(1), 0);
        allowed("keep(1)", RefusalTest::nothing, x -> x.keep(1), 1);
    }
}
