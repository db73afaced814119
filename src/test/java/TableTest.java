/** Promises 15 to 18: safe, answer, bounds, share. */
public final class TableTest {
    private static final Due DUE = new Due("TableTest");
    private static final int UNKNOWN = BothWrite.UNKNOWN, OUTSIDE = BothWrite.OUTSIDE, NOT = BothWrite.NOT;
    /**
     * Side 0 stands before side 1's home, side 1 before side 0's. PAYS by rows: to stay 500 0 500,
     * to go by 0 500 0 500, home by 1 1000 500 1000.
     */
    private static final String LINE = "fields 4;way 0 1;way 1 2;way 2 3;man 0 2;man 1 1;";

    public static void main(String[] args) {
        safeSlips();
        answers();
        bounds();
        shares();
        likeOnes();
        refusals();
        tableIsOfNow();
        byHand("fields 6;way 0 1;way 1 2;way 2 3;way 3 4;way 4 5;way 1 4;man 0 4;man 1 2;");
        byHand("fields 5;way 0 1;way 0 2;way 1 3;way 2 3;way 3 4;way 1 2;man 0 3;man 1 1;");
        byHand("fields 9;home 7 8;way 0 1;way 0 2;way 0 3;way 1 2;way 3 8;man 0 1;man 0 2;man 1 0;");
        DUE.end();
    }

    private static void safeSlips() {
        BothWrite x = Due.withNet(LINE);
        DUE.is("safe(0, 0)", x.safe(0, 0), 2);
        DUE.is("safe(0, 1)", x.safe(0, 1), 500);
        DUE.is("safe(1, 0)", x.safe(1, 0), 1);
        DUE.is("safe(1, 1)", x.safe(1, 1), 500);
    }

    private static void answers() {
        BothWrite x = Due.withNet(LINE);
        for (int slip = 0; slip < 3; slip++) {
            DUE.is("answer(0, " + slip + ")", x.answer(0, slip), 2);
            DUE.is("answer(1, " + slip + ")", x.answer(1, slip), 1);
        }
        DUE.is("answer(0, 3)", x.answer(0, 3), UNKNOWN);
        DUE.is("answer(1, 3)", x.answer(1, 3), UNKNOWN);
        DUE.is("answer(0, -1)", x.answer(0, -1), UNKNOWN);
        DUE.is("answer(1, -1)", x.answer(1, -1), UNKNOWN);
        DUE.is("answer(2, 0)", x.answer(2, 0), UNKNOWN);
        DUE.is("answer(-1, 0)", x.answer(-1, 0), UNKNOWN);
    }

    /** Both write 0 in the first round; then side 0 writes 2 and side 1 writes 1 for good. */
    private static void bounds() {
        BothWrite x = Due.withNet(LINE);
        DUE.is("bounds(1, 0)", x.bounds(1, 0), 0);
        DUE.is("bounds(1, 1)", x.bounds(1, 1), 1000);
        DUE.is("bounds(2, 0)", x.bounds(2, 0), 250);
        DUE.is("bounds(2, 1)", x.bounds(2, 1), 750);
        DUE.is("bounds(3, 0)", x.bounds(3, 0), 333);
        DUE.is("bounds(3, 1)", x.bounds(3, 1), 666);
        DUE.is("bounds(200, 0)", x.bounds(200, 0), 497);
        DUE.is("bounds(200, 1)", x.bounds(200, 1), 502);
        DUE.is("bounds(2, 0) again", x.bounds(2, 0), 250);
    }

    private static void shares() {
        BothWrite x = Due.withNet(LINE);
        for (int r = 1; r <= 200; r += r < 3 ? 1 : 197) {
            DUE.is("share(0, 0, " + r + ")", x.share(0, 0, r), 1);
            DUE.is("share(0, 1, " + r + ")", x.share(0, 1, r), 0);
            DUE.is("share(0, 2, " + r + ")", x.share(0, 2, r), r - 1);
            DUE.is("share(1, 0, " + r + ")", x.share(1, 0, r), 1);
            DUE.is("share(1, 1, " + r + ")", x.share(1, 1, r), r - 1);
            DUE.is("share(1, 2, " + r + ")", x.share(1, 2, r), 0);
        }
    }

    /** Where all pays are alike the least slip is written, whatever is asked. */
    private static void likeOnes() {
        BothWrite x = Due.withNet("fields 9;way 0 1;way 1 2;way 7 8;man 0 1;man 1 7;man 0 2;man 1 6;home 4 5;");
        DUE.is("safe(0, 0)", x.safe(0, 0), 0);
        DUE.is("safe(1, 0)", x.safe(1, 0), 0);
        DUE.is("safe(0, 1)", x.safe(0, 1), 500);
        DUE.is("answer(0, 1)", x.answer(0, 1), 0);
        DUE.is("answer(1, 6)", x.answer(1, 6), 0);
        DUE.is("share(0, 0, 9)", x.share(0, 0, 9), 9);
        DUE.is("bounds(9, 0)", x.bounds(9, 0), 500);
        DUE.is("bounds(9, 1)", x.bounds(9, 1), 500);
    }

    private static void refusals() {
        BothWrite x = Due.withNet(LINE);
        DUE.is("safe(2, 0)", x.safe(2, 0), UNKNOWN);
        DUE.is("safe(-1, 9)", x.safe(-1, 9), UNKNOWN);
        DUE.is("safe(0, 2)", x.safe(0, 2), OUTSIDE);
        DUE.is("safe(0, -1)", x.safe(0, -1), OUTSIDE);
        DUE.is("bounds(0, 0)", x.bounds(0, 0), OUTSIDE);
        DUE.is("bounds(201, 0)", x.bounds(201, 0), OUTSIDE);
        DUE.is("bounds(1, 2)", x.bounds(1, 2), OUTSIDE);
        DUE.is("bounds(1, -1)", x.bounds(1, -1), OUTSIDE);
        DUE.is("bounds(least, 0)", x.bounds(Integer.MIN_VALUE, 0), OUTSIDE);
        DUE.is("share(2, 0, 1)", x.share(2, 0, 1), UNKNOWN);
        DUE.is("share(0, 3, 1)", x.share(0, 3, 1), UNKNOWN);
        DUE.is("share(0, -1, 0)", x.share(0, -1, 0), UNKNOWN);
        DUE.is("share(0, 0, 0)", x.share(0, 0, 0), OUTSIDE);
        DUE.is("share(0, 0, 201)", x.share(0, 0, 201), OUTSIDE);
        x.move(2, 0);
        DUE.is("it is over", x.told(10), 1);
        allNot(x);
        DUE.is("safe(2, 0) when it is over", x.safe(2, 0), UNKNOWN);
        DUE.is("safe(0, 2) when it is over", x.safe(0, 2), OUTSIDE);
        DUE.is("answer(0, 9) when it is over", x.answer(0, 9), UNKNOWN);
        DUE.is("bounds(0, 0) when it is over", x.bounds(0, 0), OUTSIDE);
        DUE.is("share(0, 9, 1) when it is over", x.share(0, 9, 1), UNKNOWN);
        DUE.is("share(0, 0, 0) when it is over", x.share(0, 0, 0), OUTSIDE);
        allNot(Due.withNet("fields 5;man 0 1;man 0 2;man 0 0;man 1 4;"));
        allNot(Due.withNet("fields 5;man 1 1;man 1 2;man 1 4;man 0 0;"));
        DUE.is("two men a side", Due.withNet("fields 5;man 0 1;man 0 0;man 1 2;man 1 4;").safe(0, 1), 500);
        DUE.is("two men against one", Due.withNet("fields 5;man 0 1;man 0 0;man 1 4;").safe(0, 1), 600);
    }

    private static void allNot(BothWrite x) {
        DUE.is("safe(0, 0)", x.safe(0, 0), NOT);
        DUE.is("safe(1, 1)", x.safe(1, 1), NOT);
        DUE.is("answer(0, 0)", x.answer(0, 0), NOT);
        DUE.is("answer(1, 0)", x.answer(1, 0), NOT);
        DUE.is("bounds(1, 0)", x.bounds(1, 0), NOT);
        DUE.is("share(0, 0, 1)", x.share(0, 0, 1), NOT);
        DUE.is("written(-1, 0)", x.written(-1, 0), NOT);
    }

    /** A table is asked for again behind all that changes it. */
    private static void tableIsOfNow() {
        BothWrite x = Due.withNet("fields 9;home 7 8;way 0 1;way 0 2;way 0 3;way 1 2;man 0 1;man 0 2;man 0 6;man 1 0;man 1 3;man 1 5;");
        DUE.is("three men a side", x.safe(0, 1), NOT);
        x = Due.withNet("fields 9;home 7 8;way 0 1;way 1 2;way 1 8;way 2 3;way 3 4;man 0 2;man 1 3;man 1 5;");
        // side 0 goes to 3, side 1 to 2: that is where the laws differ
        int a = 2;
        int b = 1;
        DUE.is("safe(1, 1)", x.safe(1, 1), 400);
        DUE.is("pays, law 0", x.pays(a, b), 400);
        x.law(2);
        DUE.is("pays, law 2: the last man falls", x.pays(a, b), 0);
        DUE.is("answer(1, a), law 2", x.answer(1, a), b);
        x.law(0);
        DUE.is("answer(1, a), law 0", x.answer(1, a), 0);
        x.keep(0);
        DUE.is("answer(0, 0)", x.answer(0, 0), 0);
        x.move(1, 0);
        DUE.is("answer(0, 0) behind a move: home", x.answer(0, 0), 3);
        x.begin();
        DUE.is("answer(0, 0) behind begin()", x.answer(0, 0), 0);
        x.move(1, 0);
        DUE.is("answer(0, 0) behind a move: home", x.answer(0, 0), 3);
        x.goBack(0);
        DUE.is("answer(0, 0) behind goBack()", x.answer(0, 0), 0);
        x.seed(1);
        for (int k = 0; k < 20 && x.told(10) == 0 && x.man(0, 0) != 1; k++) {
            DUE.is("answer(0, 0) is home only from 1", x.answer(0, 0) == 3 ? 1 : 0, 0);
            x.drift(1);
        }
        x = Due.withNet("fields 4;way 0 1;way 1 2;way 1 3;man 0 0;man 1 3;");
        DUE.is("answer(0, 0)", x.answer(0, 0), 0);
        Due.feed(x, LINE);
        x.net();
        DUE.is("answer(0, 0) behind net()", x.answer(0, 0), 2);
    }

    /** The calls beside what the pays tell, for a few slips. */
    private static void byHand(String text) {
        BothWrite x = Due.withNet(text);
        for (int law = 0; law < 3; law++) {
            x.law(law);
            int[][] t = new int[x.slip(0, -1)][x.slip(1, -1)];
            for (int i = 0; i < t.length; i++) {
                for (int j = 0; j < t[i].length; j++) {
                    t[i][j] = x.pays(x.slip(0, i), x.slip(1, j));
                }
            }
            for (int side = 0; side < 2; side++) {
                checkSide(text + " law " + law, x, side == 0 ? t : turned(t), side);
            }
        }
    }

    private static int[][] turned(int[][] t) {
        int[][] u = new int[t[0].length][t.length];
        for (int i = 0; i < t.length; i++) {
            for (int j = 0; j < u.length; j++) {
                u[j][i] = 1000 - t[i][j];
            }
        }
        return u;
    }

    private static void checkSide(String where, BothWrite x, int[][] t, int side) {
        int safe = 0;
        int most = -1;
        for (int i = 0; i < t.length; i++) {
            int worst = 1000;
            for (int pay : t[i]) {
                worst = Math.min(worst, pay);
            }
            if (worst > most) {
                most = worst;
                safe = i;
            }
        }
        DUE.is(where + " safe(" + side + ", 0)", x.safe(side, 0), x.slip(side, safe));
        DUE.is(where + " safe(" + side + ", 1)", x.safe(side, 1), side == 0 ? most : 1000 - most);
        for (int j = 0; j < t[0].length; j++) {
            int best = 0;
            for (int i = 0; i < t.length; i++) {
                best = t[i][j] > t[best][j] ? i : best;
            }
            DUE.is(where + " answer(" + side + ", .)", x.answer(side, x.slip(1 - side, j)), x.slip(side, best));
        }
    }
}
