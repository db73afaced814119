/** Promises 21 to 29: stand, written, game, log, clear, judge, replayed, promise, kept. */
public final class ResultTest {
    private static final Due DUE = new Due("ResultTest");
    private static final int UNKNOWN = BothWrite.UNKNOWN, OUTSIDE = BothWrite.OUTSIDE, NOT = BothWrite.NOT,
        FULL = BothWrite.FULL, GONE = BothWrite.NONE;
    /** Side 0 on 2 has ways to 1, 3; side 1 on 1 has ways to 0, 2. */
    private static final String LINE = "fields 4;way 0 1;way 1 2;way 2 3;man 0 2;man 1 1;";
    /** Side 0's man on 1 falls on side 1's on 0 with help from 2. */
    private static final String FALL = "fields 9;home 7 8;way 0 1;way 0 2;way 0 3;way 1 2;man 0 1;man 0 2;man 1 0;man 1 3;";
    private static final int FELLS = 1 + 6 * 4;

    public static void main(String[] args) {
        standings();
        writtenSlips();
        writtenFalls();
        writtenRefusals();
        games();
        logs();
        judging();
        judgingBySides();
        judgingByLaw();
        judgingEnds();
        judgingFalls();
        promises();
        keptOrders();
        keptByTheFallen();
        keptBehindTheFirst();
        keptBehindAFallAhead();
        DUE.end();
    }

    private static void standings() {
        BothWrite x = Due.withNet(LINE);
        DUE.is("stand(0, 0, 3)", x.stand(0, 0, 3), 2);
        DUE.is("stand(0, 0, -1)", x.stand(0, 0, -1), 3);
        DUE.is("stand(0, 0, 0)", x.stand(0, 0, 0), GONE);
        DUE.is("stand(1, 0, 0)", x.stand(1, 0, 0), 1);
        DUE.is("stand(1, 0, 4)", x.stand(1, 0, 4), UNKNOWN);
        DUE.is("stand(1, 0, -2)", x.stand(1, 0, -2), UNKNOWN);
        DUE.is("stand(1, 1, 0)", x.stand(1, 1, 0), UNKNOWN);
        DUE.is("stand(0, -1, 0)", x.stand(0, -1, 0), UNKNOWN);
        DUE.is("stand(2, 0, 0)", x.stand(2, 0, 0), UNKNOWN);
        DUE.is("stand(1, 0, 1) behind what was refused", x.stand(1, 0, 1), 0);
        x.move(0, 0);
        x.begin();
        DUE.is("stand is as told behind begin()", x.stand(0, 0, 1), 0);
    }

    private static void pairs(String name, BothWrite x, int... slips) {
        DUE.is(name + ": how many", x.written(-1, 0), slips.length / 2);
        DUE.is(name + ": how many, what 1", x.written(-1, 1), slips.length / 2);
        for (int i = 0; i < slips.length / 2; i++) {
            DUE.is(name + ": written(" + i + ", 0)", x.written(i, 0), slips[2 * i]);
            DUE.is(name + ": written(" + i + ", 1)", x.written(i, 1), slips[2 * i + 1]);
        }
        DUE.is(name + ": one more", x.written(slips.length / 2, 0), GONE);
        DUE.is(name + ": one more", x.written(slips.length / 2, 1), GONE);
        DUE.is(name + ": written(-2, 0)", x.written(-2, 0), GONE);
        DUE.is(name + ": written(least, 1)", x.written(Integer.MIN_VALUE, 1), GONE);
        DUE.is(name + ": written(most, 1)", x.written(Integer.MAX_VALUE, 1), GONE);
    }

    private static void writtenSlips() {
        BothWrite x = Due.withNet(LINE);
        // by 2 0 it is thrown back, by 1 0 and 0 2 one is barred by the other
        pairs("all as it is", x, 0, 0, 0, 2, 1, 0);
        x.law(1);
        pairs("all as it is, law 1", x, 0, 0, 0, 2, 1, 0, 1, 2);
        x.law(0);
        x.stand(0, 0, 1);
        x.stand(1, 0, 2);
        pairs("places changed", x, 1, 2);
        x.law(2);
        pairs("places changed, law 2", x);
        x.stand(0, 0, -1);
        x.stand(1, 0, -1);
        pairs("both fallen, law 2", x, 1, 2);
        x.stand(0, 0, 3);
        x.stand(1, 0, 1);
        pairs("side 0 home", x, 2, 0);
        x.stand(1, 0, 3);
        pairs("two on one field", x);
        x = Due.withNet("fields 4;way 0 1;way 1 2;way 2 3;man 0 0;man 1 3;");
        x.stand(0, 0, 1);
        pairs("ahead of a move", x, 1, 0);
        x.move(1, 1);
        // both bar each other's field, and so does one who stays
        x.stand(0, 0, 1);
        x.stand(1, 0, 2);
        pairs("behind a move", x, 0, 0, 0, 1, 2, 0);
    }

    private static void writtenFalls() {
        BothWrite x = Due.withNet(FALL);
        x.stand(0, 0, 0);
        x.stand(1, 0, -1);
        // the one on 0 stays or helps, or it is thrown back from 2, where the helper stands, or from 3,
        // where the other of its side stands or is thrown back to
        pairs("one has fallen", x, FELLS, 0, FELLS, 2, FELLS, 3, FELLS, 4, FELLS, 6, FELLS, 8, FELLS, 9,
            FELLS, 26, FELLS, 27);
        x.move(FELLS, 0);
        x.stand(0, 0, 1);
        pairs("behind it", x, 1, 0, 7, 1, FELLS, 0);
        x.stand(1, 0, 0);
        DUE.is("a fallen one does not stand up", x.written(-1, 0), 0);
    }

    private static void writtenRefusals() {
        BothWrite x = Due.withNet(LINE);
        DUE.is("written(0, 2)", x.written(0, 2), OUTSIDE);
        DUE.is("written(-1, 2)", x.written(-1, 2), OUTSIDE);
        DUE.is("written(-1, -1)", x.written(-1, -1), OUTSIDE);
        x.move(2, 0);
        DUE.is("written(-1, 0) when it is over", x.written(-1, 0), NOT);
        DUE.is("written(-1, 2) when it is over", x.written(-1, 2), OUTSIDE);
        x = Due.withNet("fields 6;man 0 0;man 0 1;man 0 2;man 1 3;");
        DUE.is("written(0, 0) with three men", x.written(0, 0), NOT);
        x = Due.withNet("fields 6;man 1 5;man 1 1;man 1 2;man 0 3;");
        DUE.is("written(0, 0) with three men", x.written(0, 0), NOT);
    }

    private static void games() {
        BothWrite x = Due.withNet(LINE);
        DUE.is("game(0, 0) of no moves", x.game(0, 0), GONE);
        DUE.is("game(0, 2)", x.game(0, 2), OUTSIDE);
        DUE.is("game(-5, -1)", x.game(-5, -1), OUTSIDE);
        x.move(1, 0);
        x.move(-1, 2);
        x.move(0, -1);
        DUE.is("game(0, 0)", x.game(0, 0), 1);
        DUE.is("game(0, 1)", x.game(0, 1), 0);
        DUE.is("game(1, 0)", x.game(1, 0), 0);
        DUE.is("game(1, 1)", x.game(1, 1), 2);
        DUE.is("game(2, 1)", x.game(2, 1), 0);
        DUE.is("game(3, 1)", x.game(3, 1), GONE);
        DUE.is("game(-1, 0)", x.game(-1, 0), GONE);
        DUE.is("game(60, 0)", x.game(60, 0), GONE);
        DUE.is("game(most, 0)", x.game(Integer.MAX_VALUE, 0), GONE);
    }

    private static void logs() {
        BothWrite x = Due.withNet(LINE);
        DUE.is("log(-2, 0)", x.log(-2, 0), OUTSIDE);
        DUE.is("log(0, -2)", x.log(0, -2), OUTSIDE);
        DUE.is("log(216, 0)", x.log(216, 0), OUTSIDE);
        DUE.is("log(0, 216)", x.log(0, 216), OUTSIDE);
        DUE.is("clear() of none", x.clear(), 0);
        for (int k = 1; k <= 60; k++) {
            DUE.is("log", x.log(k % 2 == 0 ? -1 : 215, k % 2 == 0 ? 215 : -1), k);
        }
        DUE.is("a 61st", x.log(0, 0), FULL);
        DUE.is("a 61st out of bounds", x.log(216, 0), OUTSIDE);
        DUE.is("told(6)", x.told(6), 60);
        DUE.is("clear()", x.clear(), 60);
        DUE.is("told(6)", x.told(6), 0);
        DUE.is("judge() of none", x.judge(), GONE);
        DUE.is("log(0, 0)", x.log(0, 0), 1);
    }

    private static void judging() {
        BothWrite x = Due.withNet(LINE);
        x.log(0, 0);
        x.log(-1, 2);
        x.log(1, 2);
        DUE.is("judge()", x.judge(), GONE);
        DUE.is("replayed(0, 0)", x.replayed(0, 0), 1);
        DUE.is("replayed(1, 0)", x.replayed(1, 0), 2);
        DUE.is("replayed(0, 1)", x.replayed(0, 1), UNKNOWN);
        DUE.is("replayed(2, 0)", x.replayed(2, 0), UNKNOWN);
        DUE.is("replayed(1, -1)", x.replayed(1, -1), UNKNOWN);
        x.log(0, 3);
        x.log(0, 0);
        DUE.is("judge(), side 1 has no third way", x.judge(), 3);
        DUE.is("replayed(0, 0) up to it", x.replayed(0, 0), 1);
        x.clear();
        x.log(3, 0);
        DUE.is("judge(), side 0 has no third way", x.judge(), 0);
        DUE.is("replayed(0, 0) up to it", x.replayed(0, 0), 2);
        x.clear();
        x.log(6, 0);
        DUE.is("judge(), there is no second man", x.judge(), 0);
        // the game in hand is another thing
        x.clear();
        x.move(1, 2);
        x.log(0, 0);
        DUE.is("replayed(0, 0) from the beginning", x.replayed(0, 0), 2);
        DUE.is("man(0, 0)", x.man(0, 0), 1);
        DUE.is("told(5)", x.told(5), 1);
        DUE.is("replayed(0, 0) without a net", new BothWrite().replayed(0, 0), UNKNOWN);
        x = new BothWrite();
        x.log(0, 0);
        DUE.is("judge() without a net", x.judge(), 0);
    }

    /** Each slip of a pair is read by its own side's men. */
    private static void judgingBySides() {
        BothWrite x = Due.withNet(LINE + "man 0 0;");
        x.log(1 + 6, -1);
        DUE.is("judge(), side 0 has two men", x.judge(), GONE);
        DUE.is("replayed(0, 0)", x.replayed(0, 0), 2);
        x.log(4, 2);
        DUE.is("judge(), side 0 helps", x.judge(), GONE);
        x.log(0, 6);
        DUE.is("judge(), side 1 has one man", x.judge(), 2);
        x = Due.withNet(LINE + "man 1 3;");
        x.log(-1, 2 + 6);
        DUE.is("judge(), side 1 has two men", x.judge(), GONE);
        x.log(-1, -1);
        DUE.is("judge(), both late", x.judge(), GONE);
        x.log(7, -1);
        DUE.is("judge(), side 0 has one man", x.judge(), 2);
    }

    private static void judgingByLaw() {
        BothWrite x = Due.withNet(LINE);
        x.log(1, 2);
        x.log(0, 0);
        x.law(1);
        DUE.is("judge(), law 1", x.judge(), GONE);
        DUE.is("replayed(0, 0), law 1", x.replayed(0, 0), 2);
        x.law(2);
        DUE.is("judge(), law 2: both have fallen", x.judge(), 1);
        DUE.is("replayed(0, 0), law 2", x.replayed(0, 0), GONE);
        x.law(0);
        DUE.is("judge(), law 0", x.judge(), GONE);
        DUE.is("replayed(0, 0), law 0", x.replayed(0, 0), 1);
    }

    private static void judgingEnds() {
        BothWrite x = Due.withNet(LINE);
        x.log(2, 0);
        DUE.is("judge() of a game that ends", x.judge(), GONE);
        DUE.is("replayed(0, 0)", x.replayed(0, 0), 3);
        x.log(-1, -1);
        DUE.is("judge(): it stands behind the end", x.judge(), 1);
        x.log(-1, -1);
        DUE.is("judge(): the first that does", x.judge(), 1);
        DUE.is("replayed(1, 0)", x.replayed(1, 0), 1);
    }

    private static void judgingFalls() {
        BothWrite x = Due.withNet(FALL);
        x.log(FELLS, 0);
        DUE.is("replayed(1, 0)", x.replayed(1, 0), GONE);
        DUE.is("replayed(1, 1)", x.replayed(1, 1), 3);
        // one man is left: its slips are its orders
        x.log(0, 1);
        DUE.is("judge()", x.judge(), GONE);
        x.log(0, 4);
        DUE.is("judge(): nobody is left to be helped", x.judge(), 2);
        DUE.is("told(2) of the game in hand", x.told(2), 2);
    }

    private static void promises() {
        BothWrite x = Due.withNet(LINE);
        DUE.is("kept(0) of none", x.kept(0), UNKNOWN);
        DUE.is("promise(0, 1, 0, 0)", x.promise(0, 1, 0, 0), UNKNOWN);
        DUE.is("promise(2, 0, 0, 0)", x.promise(2, 0, 0, 0), UNKNOWN);
        DUE.is("promise(0, 0, 6, 0)", x.promise(0, 0, 6, 0), OUTSIDE);
        DUE.is("promise(0, 0, -1, 0)", x.promise(0, 0, -1, 0), OUTSIDE);
        DUE.is("promise(0, 0, 0, 60)", x.promise(0, 0, 0, 60), OUTSIDE);
        DUE.is("promise(0, 0, 0, -1)", x.promise(0, 0, 0, -1), OUTSIDE);
        DUE.is("told(7)", x.told(7), 0);
        for (int k = 0; k < 8; k++) {
            DUE.is("promise", x.promise(k % 2, 0, k % 6, 59 - k), k);
            DUE.is("told(7)", x.told(7), k + 1);
        }
        DUE.is("a ninth", x.promise(0, 0, 0, 0), FULL);
        DUE.is("a ninth out of bounds", x.promise(0, 0, 6, 0), OUTSIDE);
        DUE.is("a ninth of no man", x.promise(1, 1, 6, 0), UNKNOWN);
        DUE.is("kept(7)", x.kept(7), 0);
        DUE.is("kept(8)", x.kept(8), UNKNOWN);
        DUE.is("kept(-1)", x.kept(-1), UNKNOWN);
    }

    private static void keptOrders() {
        BothWrite x = Due.withNet(FALL);
        x.promise(0, 0, 1, 0);
        x.promise(0, 1, 4, 0);
        x.promise(0, 1, 1, 0);
        x.promise(1, 0, 0, 1);
        x.promise(1, 1, 1, 1);
        x.promise(1, 1, 0, 1);
        int[] ahead = {0, 0, 0, 0, 0, 0};
        int[] behindOne = {1, 1, 2, 0, 0, 0};
        int[] behindTwo = {1, 1, 2, 2, 1, 2};
        keptAll("ahead of the game", x, ahead);
        // side 1 leaves 0 for 2 and is thrown back; it falls
        x.move(FELLS, 2);
        DUE.is("man(1, 0)", x.man(1, 0), GONE);
        keptAll("behind a move", x, behindOne);
        // the man on 3 is the first of its slip now; it is thrown back, but it did what was promised
        x.move(0, 1);
        DUE.is("man(1, 1)", x.man(1, 1), 3);
        keptAll("behind two", x, behindTwo);
        x.begin();
        keptAll("behind begin()", x, ahead);
        // a slip that came late: to stay is what was done
        x.promise(1, 1, 0, 0);
        x.promise(0, 0, 0, 0);
        x.move(-1, -1);
        DUE.is("kept(6)", x.kept(6), 1);
        DUE.is("kept(7)", x.kept(7), 1);
        DUE.is("kept(0)", x.kept(0), 2);
        // what is promised for a move that has been is told at once
        BothWrite y = Due.withNet(FALL);
        y.move(0, 24);
        DUE.is("promise", y.promise(1, 1, 4, 0), 0);
        DUE.is("kept(0)", y.kept(0), 1);
    }

    private static void keptAll(String name, BothWrite x, int[] kept) {
        for (int i = 0; i < kept.length; i++) {
            DUE.is(name + ": kept(" + i + ")", x.kept(i), kept[i]);
        }
    }

    private static void keptByTheFallen() {
        BothWrite x = Due.withNet(FALL);
        x.promise(1, 0, 0, 0);
        x.promise(1, 0, 0, 1);
        x.promise(1, 0, 4, 1);
        x.move(FELLS, 0);
        x.move(0, 0);
        DUE.is("it fell in that move, but did it", x.kept(0), 1);
        DUE.is("it had fallen", x.kept(1), 2);
        DUE.is("it had fallen", x.kept(2), 2);
    }

    /** The first man of side 0 falls; the second is the first of its slips then. */
    private static void keptBehindTheFirst() {
        BothWrite x = Due.withNet("fields 9;home 7 8;way 0 1;way 0 2;way 0 3;man 0 0;man 0 3;man 1 1;man 1 2;");
        x.promise(0, 0, 0, 1);
        x.promise(0, 1, 1, 1);
        x.promise(0, 1, 1, 0);
        x.promise(0, 1, 0, 0);
        x.promise(0, 0, 1, 1);
        x.move(0, FELLS);
        DUE.is("man(0, 0)", x.man(0, 0), GONE);
        x.move(1, 0);
        keptAll("behind the first", x, new int[] {2, 1, 2, 1, 2});
    }

    /** Orders are read by the men that stood then, though another law is on and others stand now. */
    private static void keptBehindAFallAhead() {
        BothWrite x = Due.withNet(LINE);
        x.law(1);
        x.promise(0, 0, 1, 0);
        x.promise(0, 0, 2, 1);
        x.promise(1, 0, 2, 0);
        x.move(1, 2);
        x.move(1, 0);
        x.law(2);
        DUE.is("kept(0)", x.kept(0), 1);
        DUE.is("kept(1)", x.kept(1), 2);
        DUE.is("kept(2)", x.kept(2), 1);
        x.promise(1, 0, 0, 1);
        DUE.is("kept(3)", x.kept(3), 1);
    }
}
