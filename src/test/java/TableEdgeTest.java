/**
 * The document's third numbered part and promises 14 to 20, sentence by sentence: what pairs of slips
 * pay, which slips are safe, which answer, rounds from the first to the two hundredth, duels.
 */
public final class TableEdgeTest {
    private static final Due DUE = new Due("TableEdgeTest");
    private static final int NONE = BothWrite.NONE, ALL = 1000000;
    private static final String APART = "fields 9;home 7 8;way 0 1;way 0 2;way 1 2;way 3 4;way 3 5;way 4 5;";
    /** Side 0 stands before the other's home, side 1 too. By rows it pays 500 0 500, 500 0 500, 1000 500 1000. */
    private static final String LINE4 = "fields 4;way 0 1;way 1 2;way 2 3;man 0 2;man 1 1;";
    private static final String LINE9 = "fields 9;way 0 1;way 1 2;way 2 3;way 3 4;way 4 5;way 5 6;way 6 7;way 7 8;";
    /** Nets of which the tables have many unlike pays, and slips that are alike. */
    private static final String[] NETS = {
        LINE4,
        "fields 6;way 0 1;way 1 2;way 2 3;way 3 4;way 4 5;way 1 4;man 0 4;man 1 2;",
        "fields 5;way 0 1;way 0 2;way 1 3;way 2 3;way 3 4;way 1 2;man 0 3;man 1 1;",
        "fields 9;home 7 8;way 0 1;way 0 2;way 0 3;way 1 2;way 3 8;man 0 1;man 0 2;man 1 0;",
        "fields 9;home 7 8;way 0 1;way 0 2;way 0 3;way 1 2;way 1 7;way 2 8;man 0 1;man 0 2;man 1 0;man 1 3;",
        "fields 4;home 3 1;way 0 1;way 1 2;way 2 3;way 0 3;man 0 0;man 1 2;",
        "fields 7;home 0 6;way 0 1;way 0 2;way 1 3;way 2 3;way 3 4;way 4 6;way 5 6;man 0 4;man 0 3;man 1 1;man 1 2;",
    };

    public static void main(String[] args) {
        paysForMen();
        paysForEnds();
        paysBehindThePair();
        safeOfLikeOnes();
        answerOfLikeOnes();
        tablesByTheirPays();
        firstRound();
        likeOnesInRounds();
        twoHundredRounds();
        roundsByTheirPays();
        boundsAreCut();
        sharesOfAllSlips();
        roundsAskedAnew();
        tablesAsItIsNow();
        duelsThatAreOver();
        duelsWithoutMoves();
        duelsOfTwelveMoves();
        duelsByLaw();
        firstPairOfSets();
        sharesOfAMillion();
        ordersThatMayNotBe();
        DUE.end();
    }

    // ---- pays

    private static void paysForMen() {
        DUE.sentence("else 500 and 100 for each MAN that side 0 has more (less for each that it has fewer)");
        String[] men0 = {"man 0 0;", "man 0 0;man 0 1;", "man 0 0;man 0 1;man 0 2;"};
        String[] men1 = {"man 1 3;", "man 1 3;man 1 4;", "man 1 3;man 1 4;man 1 5;"};
        int[][] pays = {{500, 400, 300}, {600, 500, 400}, {700, 600, 500}};
        for (int a = 0; a < 3; a++) {
            for (int b = 0; b < 3; b++) {
                BothWrite x = Due.withNet(APART + men0[a] + men1[b]);
                DUE.is("pays(0, 0), " + (a + 1) + " against " + (b + 1), x.pays(0, 0), pays[a][b]);
                DUE.is("pays(-1, -1), " + (a + 1) + " against " + (b + 1), x.pays(NONE, NONE), pays[a][b]);
            }
        }
    }

    private static void paysForEnds() {
        DUE.sentence("1000 if side 0 has WON behind it, 0 if side 1, 500 if DRAWN");
        BothWrite x = Due.withNet(LINE4);
        int[][] pays = {{500, 0, 500}, {500, 0, 500}, {1000, 500, 1000}};
        for (int a = 0; a < 3; a++) {
            for (int b = 0; b < 3; b++) {
                DUE.is("pays(" + a + ", " + b + ")", x.pays(a, b), pays[a][b]);
            }
        }
        // the men that are left do not matter then
        x = Due.withNet("fields 9;home 0 8;way 0 1;way 7 8;man 0 7;man 1 1;man 1 2;man 1 3;");
        DUE.is("won with fewer men", x.pays(1, 0), 1000);
        DUE.is("lost with fewer men", x.pays(0, 1), 0);
        DUE.is("drawn with fewer men", x.pays(1, 1), 500);
        x = Due.withNet("fields 9;home 0 8;way 0 1;way 7 8;man 0 7;man 0 2;man 0 3;man 1 1;");
        DUE.is("won with more men", x.pays(1, 0), 1000);
        DUE.is("lost with more men", x.pays(0, 1), 0);
        DUE.is("drawn with more men", x.pays(1, 1), 500);
    }

    private static void paysBehindThePair() {
        DUE.sentence("PAYS ... behind it: of the MEN that have not fallen then");
        BothWrite x = Due.withNet(APART + "man 0 0;man 0 1;man 1 2;man 1 3;");
        // 0 goes to 2 with help of 1, where one stays: it falls
        DUE.is("one of side 1 falls", x.pays(2 + 6 * 4, 0), 600);
        DUE.is("none falls", x.pays(0, 0), 500);
        x.law(2);
        DUE.is("one of each falls", x.pays(2, 1), 500);
        x = Due.withNet(APART + "man 0 0;man 1 2;");
        x.law(2);
        DUE.is("both last ones fall", x.pays(2, 1), 500);
        x = Due.withNet(APART + "man 0 0;man 0 1;man 1 2;");
        DUE.is("the last of side 1 falls", x.pays(2 + 6 * 4, 0), 1000);
        x = Due.withNet(APART + "man 1 0;man 1 1;man 0 2;");
        DUE.is("the last of side 0 falls", x.pays(0, 2 + 6 * 4), 0);
    }

    // ---- tables

    private static int[][] table(String net, int law) {
        BothWrite x = Due.withNet(net);
        int[][] t = new int[x.slip(0, -1)][x.slip(1, -1)];
        for (int i = 0; i < t.length; i++) {
            // an object answers for 512 calls
            BothWrite y = Due.withNet(net);
            y.law(law);
            for (int j = 0; j < t[i].length; j++) {
                t[i][j] = y.pays(x.slip(0, i), y.slip(1, j));
            }
        }
        return t;
    }

    /** What side 0 wants much of, side 1 wants little of. */
    private static int worth(int side, int pay) {
        return side == 0 ? pay : -pay;
    }

    private static int pay(int[][] t, int side, int mine, int theirs) {
        return side == 0 ? t[mine][theirs] : t[theirs][mine];
    }

    private static int many(int[][] t, int side) {
        return side == 0 ? t.length : t[0].length;
    }

    private static void safeOfLikeOnes() {
        DUE.sentence("SAFE: the SLIP whose worst PAY is best for it; of like ones the least");
        BothWrite x = Due.withNet(LINE4);
        DUE.is("safe(0, 0)", x.safe(0, 0), 2);
        DUE.is("safe(0, 1)", x.safe(0, 1), 500);
        DUE.is("safe(1, 0)", x.safe(1, 0), 1);
        DUE.is("safe(1, 1)", x.safe(1, 1), 500);
        // all pays are alike: the least
        x = Due.withNet(APART + "man 0 0;man 1 3;");
        DUE.is("safe(0, 0), all alike", x.safe(0, 0), 0);
        DUE.is("safe(1, 0), all alike", x.safe(1, 0), 0);
        DUE.is("safe(0, 1), all alike", x.safe(0, 1), 500);
        // either of two ways is home for both sides: the first of the two, not the second
        x = Due.withNet("fields 6;home 0 5;way 0 1;way 5 4;man 0 4;man 0 2;man 1 1;man 1 3;");
        DUE.is("safe(0, 0): home, the other stays", x.safe(0, 0), 1);
        DUE.is("safe(1, 0): home, the other stays", x.safe(1, 0), 1);
        // as above, but the second man is the one that comes home: 6 and 10 are alike
        x = Due.withNet("fields 6;home 0 5;way 0 1;way 5 4;man 0 2;man 0 4;man 1 3;man 1 1;");
        DUE.is("safe(0, 0): home, the first stays, not helps", x.safe(0, 0), 6);
        DUE.is("safe(1, 0): home, the first stays, not helps", x.safe(1, 0), 6);
        DUE.is("safe(0, 1)", x.safe(0, 1), 500);
        DUE.is("safe(1, 1)", x.safe(1, 1), 500);
        // to go home is worth no more than to stay, if the other but stays there, as its first slip tells
        x = Due.withNet("fields 4;way 0 1;way 1 2;way 2 3;man 0 2;man 1 3;");
        DUE.is("home is worth much", x.pays(2, 1), 1000);
        DUE.is("safe(0, 0): the other's first slip is the worst", x.safe(0, 0), 0);
        DUE.is("safe(0, 1): the other's first slip is the worst", x.safe(0, 1), 500);
        x = Due.withNet("fields 4;way 0 1;way 1 2;way 2 3;man 0 0;man 1 1;");
        DUE.is("safe(1, 0): the other's first slip is the worst", x.safe(1, 0), 0);
        DUE.is("safe(1, 1): the other's first slip is the worst", x.safe(1, 1), 500);
        // the other's last slip is the worst: by its second way it comes home
        x = Due.withNet("fields 6;home 3 5;way 1 2;way 1 3;way 0 4;man 0 0;man 1 1;");
        DUE.is("safe(0, 1): the other's last slip is the worst", x.safe(0, 1), 0);
        x = Due.withNet("fields 6;home 5 3;way 1 2;way 1 3;way 0 4;man 1 0;man 0 1;");
        DUE.is("safe(1, 1): the other's last slip is the worst", x.safe(1, 1), 1000);
    }

    private static void answerOfLikeOnes() {
        DUE.sentence("ANSWER: the SLIP that is best against it; of like ones the least");
        BothWrite x = Due.withNet("fields 6;home 0 5;way 0 1;way 5 4;man 0 2;man 0 4;man 1 3;man 1 1;");
        // side 0 has 0, 4, 6, 10, 24, 28; 6 and 10 bring it home, whatever side 1 writes; side 1 likewise
        for (int theirs : new int[] {0, 4, 6, 10, 24, 28}) {
            DUE.is("answer(0, " + theirs + ")", x.answer(0, theirs), 6);
            DUE.is("answer(1, " + theirs + ")", x.answer(1, theirs), 6);
        }
        x = Due.withNet(APART + "man 0 0;man 0 1;man 1 3;man 1 4;");
        for (int i = 0; i < 16; i++) {
            DUE.is("answer(0, .), all alike", x.answer(0, x.slip(1, i)), 0);
            DUE.is("answer(1, .), all alike", x.answer(1, x.slip(0, i)), 0);
        }
    }

    private static void tablesByTheirPays() {
        DUE.sentence("SAFE, ANSWER (side 0 wants much, side 1 little)");
        for (String net : NETS) {
            for (int law = 0; law < 3; law++) {
                int[][] t = table(net, law);
                BothWrite x = Due.withNet(net);
                x.law(law);
                for (int side = 0; side < 2; side++) {
                    safeAndAnswers(net + " law " + law, x, t, side);
                }
            }
        }
    }

    private static void safeAndAnswers(String where, BothWrite x, int[][] t, int side) {
        int safe = -1;
        int most = Integer.MIN_VALUE;
        for (int i = 0; i < many(t, side); i++) {
            int worst = Integer.MAX_VALUE;
            for (int j = 0; j < many(t, 1 - side); j++) {
                worst = Math.min(worst, worth(side, pay(t, side, i, j)));
            }
            if (worst > most) {
                most = worst;
                safe = i;
            }
        }
        DUE.is("safe(" + side + ", 0) on " + where, x.safe(side, 0), x.slip(side, safe));
        DUE.is("safe(" + side + ", 1) on " + where, x.safe(side, 1), Math.abs(most));
        for (int j = 0; j < many(t, 1 - side); j++) {
            int best = 0;
            for (int i = 1; i < many(t, side); i++) {
                best = worth(side, pay(t, side, i, j)) > worth(side, pay(t, side, best, j)) ? i : best;
            }
            int theirs = x.slip(1 - side, j);
            DUE.is("answer(" + side + ", " + theirs + ") on " + where, x.answer(side, theirs), x.slip(side, best));
        }
    }

    // ---- rounds

    private static void firstRound() {
        DUE.sentence("the least SLIP in the first round");
        for (String net : NETS) {
            BothWrite x = Due.withNet(net);
            for (int side = 0; side < 2; side++) {
                for (int i = 0; i < x.slip(side, -1); i++) {
                    int slip = x.slip(side, i);
                    DUE.is("share(" + side + ", " + slip + ", 1) on " + net, x.share(side, slip, 1), i == 0 ? 1 : 0);
                }
            }
        }
        // what the least slip of both is worth, at its worst
        BothWrite x = Due.withNet(LINE4);
        DUE.is("bounds(1, 0)", x.bounds(1, 0), 0);
        DUE.is("bounds(1, 1)", x.bounds(1, 1), 1000);
    }

    private static void likeOnesInRounds() {
        DUE.sentence("in each round ... of like ones the least");
        BothWrite x = Due.withNet("fields 6;home 0 5;way 0 1;way 5 4;man 0 2;man 0 4;man 1 3;man 1 1;");
        for (int side = 0; side < 2; side++) {
            int[] slips = {0, 4, 6, 10, 24, 28};
            int[] shares = {1, 0, 8, 0, 0, 0};
            for (int k = 0; k < slips.length; k++) {
                DUE.is("share(" + side + ", " + slips[k] + ", 9)", x.share(side, slips[k], 9), shares[k]);
            }
        }
        x = Due.withNet(APART + "man 0 0;man 1 3;");
        for (int r : new int[] {1, 2, 200}) {
            DUE.is("share(0, 0, " + r + "), all alike", x.share(0, 0, r), r);
            DUE.is("share(1, 0, " + r + "), all alike", x.share(1, 0, r), r);
        }
    }

    /** Both write 0 in the first round; then side 0 writes 2 and side 1 writes 1 for good. */
    private static void twoHundredRounds() {
        DUE.sentence("ROUNDS r (1 .. 200)");
        BothWrite x = Due.withNet(LINE4);
        for (int r : new int[] {1, 2, 3, 199, 200}) {
            DUE.is("share(0, 0, " + r + ")", x.share(0, 0, r), 1);
            DUE.is("share(0, 1, " + r + ")", x.share(0, 1, r), 0);
            DUE.is("share(0, 2, " + r + ")", x.share(0, 2, r), r - 1);
            DUE.is("share(1, 0, " + r + ")", x.share(1, 0, r), 1);
            DUE.is("share(1, 1, " + r + ")", x.share(1, 1, r), r - 1);
            DUE.is("share(1, 2, " + r + ")", x.share(1, 2, r), 0);
            DUE.is("bounds(" + r + ", 0)", x.bounds(r, 0), 500 * (r - 1) / r);
            DUE.is("bounds(" + r + ", 1)", x.bounds(r, 1), (1000 + 500 * (r - 1)) / r);
        }
    }

    /** The rounds played by the pays alone. */
    private static void roundsByTheirPays() {
        DUE.sentence("the SLIP that is best against all that the other wrote in rounds ahead (the sum of PAYS)");
        for (String net : NETS) {
            for (int law = 0; law < 3; law++) {
                rounds(net, law);
            }
        }
    }

    private static void rounds(String net, int law) {
        int[][] t = table(net, law);
        int[] sum0 = new int[t.length];
        int[] sum1 = new int[t[0].length];
        int[] wrote0 = new int[t.length];
        int[] wrote1 = new int[t[0].length];
        for (int r = 1; r <= 200; r++) {
            int a = 0;
            int b = 0;
            for (int i = 0; i < sum0.length; i++) {
                a = sum0[i] > sum0[a] ? i : a;
            }
            for (int j = 0; j < sum1.length; j++) {
                b = sum1[j] < sum1[b] ? j : b;
            }
            wrote0[a]++;
            wrote1[b]++;
            for (int i = 0; i < sum0.length; i++) {
                sum0[i] += t[i][b];
            }
            for (int j = 0; j < sum1.length; j++) {
                sum1[j] += t[a][j];
            }
            if (r <= 12 || r % 50 == 0 || r == 199) {
                int most = 0;
                int least = Integer.MAX_VALUE;
                for (int v : sum0) {
                    most = Math.max(most, v);
                }
                for (int v : sum1) {
                    least = Math.min(least, v);
                }
                check(net, law, r, new int[][] {wrote0, wrote1, {least / r, most / r}});
            }
        }
    }

    private static void check(String net, int law, int r, int[][] want) {
        BothWrite x = Due.withNet(net);
        x.law(law);
        for (int side = 0; side < 2; side++) {
            for (int i = 0; i < want[side].length; i++) {
                int slip = x.slip(side, i);
                DUE.is("share(" + side + ", " + slip + ", " + r + "), law " + law + ", on " + net, x.share(side, slip, r), want[side][i]);
            }
            DUE.is("bounds(" + r + ", " + side + "), law " + law + ", on " + net, x.bounds(r, side), want[2][side]);
        }
    }

    private static void boundsAreCut() {
        DUE.sentence("the sum of PAYS / r, cut");
        BothWrite x = Due.withNet(LINE4);
        // side 0: 0, then 500 a round; side 1: 1000, then 500 a round
        int[] lower = {0, 250, 333, 375, 400, 416, 428};
        int[] upper = {1000, 750, 666, 625, 600, 583, 571};
        for (int r = 1; r <= 7; r++) {
            DUE.is("bounds(" + r + ", 0)", x.bounds(r, 0), lower[r - 1]);
            DUE.is("bounds(" + r + ", 1)", x.bounds(r, 1), upper[r - 1]);
        }
    }

    private static void sharesOfAllSlips() {
        DUE.sentence("SHARE of a SLIP: in how many of the ROUNDS it was written");
        for (String net : NETS) {
            BothWrite x = Due.withNet(net);
            for (int side = 0; side < 2; side++) {
                for (int r : new int[] {1, 2, 199, 200}) {
                    int sum = 0;
                    for (int i = 0; i < x.slip(side, -1); i++) {
                        sum += x.share(side, x.slip(side, i), r);
                    }
                    DUE.is("shares of side " + side + " in " + r + " rounds on " + net, sum, r);
                }
            }
        }
    }

    private static void roundsAskedAnew() {
        DUE.sentence("bounds, share: behind r ROUNDS, whatever was asked ahead");
        String net = NETS[1];
        int[] rs = {200, 1, 7, 3, 199, 7, 200, 2, 1};
        BothWrite x = Due.withNet(net);
        for (int r : rs) {
            BothWrite y = Due.withNet(net);
            DUE.is("bounds(" + r + ", 0)", x.bounds(r, 0), y.bounds(r, 0));
            DUE.is("bounds(" + r + ", 1)", x.bounds(r, 1), y.bounds(r, 1));
            DUE.is("share(0, 0, " + r + ")", x.share(0, 0, r), y.share(0, 0, r));
            DUE.is("share(1, 0, " + r + ")", x.share(1, 0, r), y.share(1, 0, r));
        }
        // other laws have other tables
        for (int law : new int[] {2, 0, 1, 2}) {
            BothWrite y = Due.withNet(net);
            x.law(law);
            y.law(law);
            DUE.is("bounds(9, 0), law " + law, x.bounds(9, 0), y.bounds(9, 0));
            DUE.is("bounds(9, 1), law " + law, x.bounds(9, 1), y.bounds(9, 1));
            DUE.is("safe(1, 0), law " + law, x.safe(1, 0), y.safe(1, 0));
        }
    }

    /** A table is of the men, the law, the net as they are when it is asked for. */
    private static void tablesAsItIsNow() {
        DUE.sentence("PAYS of a pair of SLIPS ... THE MEN as they are now");
        String net = "fields 9;home 7 8;way 0 1;way 1 2;way 1 8;way 2 3;way 3 4;man 0 2;man 1 3;man 1 5;";
        BothWrite x = Due.withNet(net);
        tableIs("at first", x, net, 0, 0);
        x.move(1, 0);
        tableIs("behind a move", x, net, 0, 1);
        x.begin();
        tableIs("behind begin()", x, net, 0, 0);
        x.law(2);
        tableIs("by law 2", x, net, 2, 0);
        x.law(1);
        tableIs("by law 1", x, net, 1, 0);
        x.keep(1);
        x.move(1, 0);
        tableIs("behind a move, law 1", x, net, 1, 1);
        x.goBack(1);
        tableIs("behind goBack()", x, net, 1, 0);
        x.law(0);
        Due.feed(x, LINE4);
        x.net();
        tableIs("behind net()", x, LINE4, 0, 0);
        Due.feed(x, net);
        x.net();
        tableIs("behind net() again", x, net, 0, 0);
    }

    private static void tableIs(String name, BothWrite x, String net, int law, int moves) {
        BothWrite y = Due.withNet(net);
        y.law(law);
        if (moves == 1) {
            y.move(1, 0);
        }
        for (int side = 0; side < 2; side++) {
            DUE.is(name + ": safe(" + side + ", 0)", x.safe(side, 0), y.safe(side, 0));
            DUE.is(name + ": safe(" + side + ", 1)", x.safe(side, 1), y.safe(side, 1));
            for (int r : new int[] {1, 2, 3, 10}) {
                DUE.is(name + ": bounds(" + r + ", " + side + ")", x.bounds(r, side), y.bounds(r, side));
            }
            for (int i = 0; i < y.slip(side, NONE); i++) {
                int slip = y.slip(side, i);
                DUE.is(name + ": share(" + side + ", " + slip + ", 9)", x.share(side, slip, 9), y.share(side, slip, 9));
                DUE.is(name + ": answer(" + (1 - side) + ", " + slip + ")", x.answer(1 - side, slip), y.answer(1 - side, slip));
            }
        }
        DUE.is(name + ": written(-1, 0)", x.written(NONE, 0), y.written(NONE, 0));
    }

    // ---- duels

    private static void duelsThatAreOver() {
        DUE.sentence("if it is WON or DRAWN as PAYS tells");
        BothWrite x = Due.withNet(LINE9);
        for (int n : new int[] {0, 1, 12}) {
            for (int f = 1; f < 8; f++) {
                DUE.is("duel(8, " + f + ", " + n + ")", x.duel(8, f, n), 1000);
                DUE.is("duel(" + f + ", 0, " + n + ")", x.duel(f, 0, n), 0);
            }
            DUE.is("duel(8, 0, " + n + ")", x.duel(8, 0, n), 500);
            DUE.is("duel(0, 8, " + n + ")", x.duel(0, 8, n), 500);
        }
        x = Due.withNet(LINE9 + "home 3 5;");
        for (int n : new int[] {0, 1, 12}) {
            DUE.is("told homes: duel(5, 4, " + n + ")", x.duel(5, 4, n), 1000);
            DUE.is("told homes: duel(4, 3, " + n + ")", x.duel(4, 3, n), 0);
            DUE.is("told homes: duel(5, 3, " + n + ")", x.duel(5, 3, n), 500);
        }
    }

    private static void duelsWithoutMoves() {
        DUE.sentence("with n 0 500");
        for (int law = 0; law < 3; law++) {
            BothWrite x = Due.withNet(LINE9);
            x.law(law);
            for (int a = 0; a < 8; a++) {
                for (int b = 1; b < 9; b++) {
                    if (a != b) {
                        DUE.is("duel(" + a + ", " + b + ", 0)", x.duel(a, b, 0), 500);
                    }
                }
            }
        }
    }

    /**
     * On a line two who have passed each other run: who has the shorter way comes home, if it has the
     * moves. Two who have not bar each other.
     */
    private static int raced(int a, int b, int n) {
        if (a < b) {
            return 500;
        }
        int far0 = 8 - a;
        int far1 = b;
        if (far0 == far1 || Math.min(far0, far1) > n) {
            return 500;
        }
        return far0 < far1 ? 1000 : 0;
    }

    private static void duelsOfTwelveMoves() {
        DUE.sentence("n MOVES (0 .. 12) to go");
        for (int n = 0; n <= 12; n++) {
            for (int law = 0; law < 3; law++) {
                BothWrite x = Due.withNet(LINE9);
                x.law(law);
                for (int a = 0; a < 8; a++) {
                    for (int b = 1; b < 9; b++) {
                        if (a != b) {
                            DUE.is("duel(" + a + ", " + b + ", " + n + "), law " + law, x.duel(a, b, n), raced(a, b, n));
                        }
                    }
                }
            }
        }
        // nobody bars the seven steps to the home
        BothWrite x = Due.withNet("fields 9;home 0 7;way 0 1;way 1 2;way 2 3;way 3 4;way 4 5;way 5 6;way 6 7;");
        BothWrite y = Due.withNet("fields 9;home 7 0;way 0 1;way 1 2;way 2 3;way 3 4;way 4 5;way 5 6;way 6 7;");
        for (int n = 0; n <= 12; n++) {
            DUE.is("seven steps of side 0, duel(0, 8, " + n + ")", x.duel(0, 8, n), n >= 7 ? 1000 : 500);
            DUE.is("seven steps of side 1, duel(8, 0, " + n + ")", y.duel(8, 0, n), n >= 7 ? 0 : 500);
        }
    }

    private static void duelsByLaw() {
        DUE.sentence("LAW as it is");
        // what was asked by one law, with more or with fewer moves, is not mixed with the others
        BothWrite all = Due.withNet(LINE9);
        int[][] asked = {{0, 12}, {1, 0}, {0, 11}, {2, 12}, {1, 12}, {2, 0}, {0, 0}, {1, 11}, {2, 1}, {0, 12}, {1, 5}, {2, 11}};
        for (int[] q : asked) {
            all.law(q[0]);
            for (int n = q[1]; n >= 0 && n > q[1] - 3; n--) {
                DUE.is("duel(6, 5, " + n + "), law " + q[0], all.duel(6, 5, n), raced(6, 5, n));
                DUE.is("duel(3, 2, " + n + "), law " + q[0], all.duel(3, 2, n), raced(3, 2, n));
                DUE.is("duel(2, 1, " + n + "), law " + q[0], all.duel(2, 1, n), raced(2, 1, n));
            }
        }
        // nor are the duels of two nets
        Due.feed(all, "fields 9;");
        all.net();
        DUE.is("duel(7, 5, 12) without ways", all.duel(7, 5, 12), 500);
        // side 0 on 0 and side 1 on 1, one step from home by the other's field: with law 0 they pass
        String two = "fields 4;home 3 1;way 0 1;way 1 2;way 0 3;";
        BothWrite x = Due.withNet(two + "man 0 0;man 1 1;");
        DUE.is("side 0 comes where side 1 leaves, law 0", x.tried(1, 1, 0), 1);
        x.law(1);
        DUE.is("both are thrown back, law 1", x.tried(1, 1, 0), 0);
        x.law(2);
        DUE.is("both fall, law 2", x.tried(1, 1, 0), 3);
        for (int law : new int[] {0, 1, 2, 0}) {
            x.law(law);
            DUE.is("lot(0, 1, 1, 0, 0), law " + law, x.lot(0, 1, 1, 0, 0), ALL);
            DUE.is("duel(0, 1, 1), law " + law, x.duel(0, 1, 1), 500);
        }
    }

    private static void lots(String name, BothWrite x, int[] duel, int order0, int order1) {
        for (int order = 0; order < 4; order++) {
            int of0 = x.lot(duel[0], duel[1], duel[2], 0, order);
            int of1 = x.lot(duel[0], duel[1], duel[2], 1, order);
            DUE.is(name + ": side 0, order " + order, of0, order == order0 ? ALL : 0);
            DUE.is(name + ": side 1, order " + order, of1, order == order1 ? ALL : 0);
        }
    }

    private static void firstPairOfSets() {
        DUE.sentence("the first pair of SETS (sizes rising, then side 0's SET, then side 1's, by rising numbers)");
        BothWrite x = Due.withNet(LINE9);
        lots("all alike: to stay", x, new int[] {2, 5, 1}, 0, 0);
        lots("all alike: to stay, twelve moves", x, new int[] {2, 5, 12}, 0, 0);
        // one step from home and one move: the way there, which is the second of two
        lots("side 0 comes home", x, new int[] {7, 2, 1}, 2, 0);
        lots("side 1 comes home", x, new int[] {6, 1, 1}, 0, 1);
        lots("both come home", x, new int[] {7, 1, 1}, 2, 1);
        // with two moves to go side 0 may still stay, and comes home with the next
        lots("side 0 comes home later", x, new int[] {7, 3, 2}, 0, 0);
        lots("side 0 must not wait", x, new int[] {7, 1, 2}, 2, 1);
        // both ways lead home: the first of them
        x = Due.withNet("fields 6;home 3 4;way 0 1;way 0 2;way 1 4;way 2 4;");
        lots("two ways of like length", x, new int[] {0, 5, 2}, 1, 0);
        DUE.is("two ways of like length", x.duel(0, 5, 2), 1000);
        lots("two ways, three moves: to stay first", x, new int[] {0, 5, 3}, 0, 0);
        lots("two ways, too few moves", x, new int[] {0, 5, 1}, 0, 0);
        x = Due.withNet("fields 6;home 4 3;way 0 1;way 0 2;way 1 4;way 2 4;");
        lots("two ways of side 1", x, new int[] {5, 0, 2}, 0, 1);
        DUE.is("two ways of side 1", x.duel(5, 0, 2), 0);
        lots("two ways of side 1, three moves", x, new int[] {5, 0, 3}, 0, 0);
    }

    private static void sharesOfAMillion() {
        DUE.sentence("SHARES of ORDERS of a MILLION (cut)");
        for (int law = 0; law < 3; law++) {
            for (int a = 0; a < 5; a++) {
                BothWrite x = Due.withNet("fields 6;way 0 1;way 0 2;way 1 2;way 1 3;way 2 4;way 3 4;way 3 5;way 4 5;");
                x.law(law);
                for (int b = 1; b < 6; b++) {
                    for (int side = 0; side < 2 && a != b; side++) {
                        for (int n : new int[] {1, 2, 12}) {
                            int sum = 0;
                            for (int order = 0; order < 4; order++) {
                                sum += x.lot(a, b, n, side, order);
                            }
                            DUE.is("lots of (" + a + ", " + b + ", " + n + ", " + side + ")", sum, ALL);
                        }
                    }
                }
            }
        }
    }

    private static void ordersThatMayNotBe() {
        DUE.sentence("lot: SHARE of an ORDER (0 .. 3); 0 of one that may not be");
        // of side 0 on 1, 2, 3, 4: none, one, two, three ways
        BothWrite x = Due.withNet("fields 9;home 7 8;way 2 5;way 3 5;way 3 6;way 4 5;way 4 6;way 4 0;");
        for (int f = 1; f <= 4; f++) {
            for (int order = 1; order < 4; order++) {
                DUE.is("lot(" + f + ", 8, 1, 0, " + order + ")", x.lot(f, 8, 1, 0, order), 0);
                DUE.is("lot(7, " + f + ", 1, 1, " + order + ")", x.lot(7, f, 1, 1, order), 0);
            }
            DUE.is("lot(" + f + ", 8, 1, 0, 0)", x.lot(f, 8, 1, 0, 0), ALL);
            DUE.is("lot(7, " + f + ", 1, 1, 0)", x.lot(7, f, 1, 1, 0), ALL);
        }
        // the third of three ways is home
        x = Due.withNet("fields 9;home 7 8;way 4 0;way 4 1;way 4 8;way 5 0;way 5 1;way 5 7;");
        lots("the third way of side 0", x, new int[] {4, 2, 1}, 3, 0);
        lots("the third way of side 1", x, new int[] {2, 5, 1}, 0, 3);
        lots("the third way of both", x, new int[] {4, 5, 1}, 3, 3);
    }
}
