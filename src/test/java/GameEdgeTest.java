import java.util.ArrayList;
import java.util.List;

/**
 * The document's fourth numbered part and promises 5, 7, 8, 21 to 32, sentence by sentence: what is told,
 * slips that can have been written, games and logs of none to sixty pairs, promises, draws, images.
 */
public final class GameEdgeTest {
    private static final Due DUE = new Due("GameEdgeTest");
    private static final int NONE = BothWrite.NONE, NOT = BothWrite.NOT, UNKNOWN = BothWrite.UNKNOWN,
        LEAST = Integer.MIN_VALUE, MOST = Integer.MAX_VALUE;
    private static final String STAR = "fields 9;home 7 8;way 0 1;way 0 2;way 0 3;way 1 4;way 2 5;way 3 6;way 1 2;";
    private static final String LINE4 = "fields 4;way 0 1;way 1 2;way 2 3;man 0 2;man 1 1;";
    private static final String LINE9 = "fields 9;way 0 1;way 1 2;way 2 3;way 3 4;way 4 5;way 5 6;way 6 7;way 7 8;";
    /** Men that never can leave their fields. */
    private static final String STILL = "fields 4;man 0 1;man 1 2;";
    private static final int HELP1 = 4;
    /** On STAR: side 0's man on 1 goes to 0 with help of that on 2. */
    private static final int FELLS = 1 + 6 * HELP1;

    public static void main(String[] args) {
        toldOfNoneAndOfAll();
        manThatFell();
        lawThatWas();
        writtenByTries();
        writtenHowMany();
        writtenRising();
        standingsWithTheFallen();
        standingsAtFirst();
        gamePlaces();
        sixtyOfTheLog();
        logIsReadWhenAsked();
        wrongFirst();
        wrongBehindTheEnd();
        wrongLast();
        replayedUpToWrong();
        clears();
        openKeptBroken();
        everyOrderKept();
        hadFallen();
        lateIsToStay();
        firstAndLastMove();
        promisesBehindTheEnd();
        eightPromises();
        seedAtFirst();
        seedWraps();
        whatImagesKeep();
        imagesOfTheEnds();
        imagesGone();
        twoImages();
        askingChangesNothing();
        calls512();
        DUE.end();
    }

    // ---- what is told

    private static void told(String name, BothWrite x, int... told) {
        for (int what = 0; what < told.length; what++) {
            DUE.is("told(" + what + ") " + name, x.told(what), told[what]);
        }
    }

    private static void toldOfNoneAndOfAll() {
        DUE.sentence("told: How many (NONE without FIELDS): none, and all that there can be");
        BothWrite x = new BothWrite();
        told("of a new object", x, 0, 0, 0, NONE, NONE, 0, 0, 0, 0, 0, 3);
        Due.feed(x, " ".repeat(392) + "fields 2");
        DUE.is("told(8) of a full text", x.told(8), 400);
        x.net();
        told("behind a fault without a net", x, 0, 0, 0, NONE, NONE, 0, 0, 0, 0, 0, 3);
        Due.feed(x, "fields 2;");
        x.net();
        told("of the least net", x, 2, 0, 0, 0, 1, 0, 0, 0, 0, 0, 3);
        x = Due.withNet("fields 9;man 0 0;man 0 1;man 0 2;man 1 3;man 1 4;man 1 8;");
        x.law(2);
        x.drift(60);
        for (int k = 0; k < 60; k++) {
            x.log(k, NONE);
        }
        for (int k = 0; k < 8; k++) {
            x.promise(1, 2, 5, 59);
        }
        Due.feed(x, "x".repeat(400));
        told("of all that there can be", x, 9, 3, 3, 0, 8, 60, 60, 8, 400, 2, 0);
        DUE.sentence("told: 10 how THE GAME is (0 goes on, 1, 2 WON by side 0, 1, 3 DRAWN)");
        int[][] moves = {{0, 0}, {2, 0}, {0, 1}, {2, 1}};
        for (int how = 0; how < 4; how++) {
            x = Due.withNet(LINE4);
            DUE.is("move", x.move(moves[how][0], moves[how][1]), how);
            DUE.is("told(10)", x.told(10), how);
        }
    }

    private static void manThatFell() {
        DUE.sentence("man: The FIELD of a MAN; NONE: it has fallen; told: MEN ... that have not fallen");
        BothWrite x = Due.withNet(STAR + "man 0 1;man 0 2;man 1 0;man 1 6;");
        DUE.is("man(1, 0) on field 0", x.man(1, 0), 0);
        DUE.is("told(2)", x.told(2), 2);
        x.move(FELLS, 0);
        DUE.is("man(1, 0) fallen", x.man(1, 0), NONE);
        DUE.is("man(0, 0) on field 0", x.man(0, 0), 0);
        DUE.is("man(1, 1)", x.man(1, 1), 6);
        DUE.is("told(1)", x.told(1), 2);
        DUE.is("told(2), one fallen", x.told(2), 1);
        x.begin();
        DUE.is("man(1, 0) behind begin()", x.man(1, 0), 0);
        DUE.is("told(2) behind begin()", x.told(2), 2);
        x = Due.withNet("fields 9;home 0 1;man 0 8;man 1 7;");
        DUE.is("man(0, 0) on the last field", x.man(0, 0), 8);
    }

    private static void lawThatWas() {
        DUE.sentence("law: LAW becomes v (0 .. 2): what it was");
        BothWrite x = new BothWrite();
        int was = 0;
        for (int v : new int[] {0, 1, 2, 2, 0, 2, 1, 1, 0}) {
            DUE.is("law(" + v + ")", x.law(v), was);
            DUE.is("told(9)", x.told(9), v);
            was = v;
        }
        DUE.is("law(1) ahead of a net", x.law(1), 0);
        Due.feed(x, LINE4);
        x.net();
        DUE.is("told(9) behind net()", x.told(9), 1);
        x.keep(0);
        x.law(2);
        x.move(0, 0);
        x.begin();
        x.goBack(0);
        DUE.is("told(9) behind move, begin, goBack", x.told(9), 2);
    }

    // ---- written

    /** All pairs that come to the told standing, by tries alone; the pairs stand side by side. */
    private static List<Integer> pairs(String net, int law, int[] standing) {
        List<Integer> found = new ArrayList<>();
        BothWrite slips = Due.withNet(net);
        for (int i = 0; i < slips.slip(0, -1); i++) {
            int a = slips.slip(0, i);
            BothWrite x = Due.withNet(net);
            x.law(law);
            for (int j = 0; j < x.slip(1, -1); j++) {
                int b = x.slip(1, j);
                boolean alike = true;
                for (int k = 0; k < 6; k++) {
                    int f = x.tried(a, b, 1 + k);
                    alike &= f == UNKNOWN || f == standing[k];
                }
                if (alike) {
                    found.add(a);
                    found.add(b);
                }
            }
        }
        return found;
    }

    private static void writtenAre(String net, int law, int... standing) {
        List<Integer> pairs = pairs(net, law, standing);
        int many = pairs.size() / 2;
        BothWrite x = Due.withNet(net);
        x.law(law);
        for (int k = 0; k < 6; k++) {
            if (x.man(k / 3, k % 3) != UNKNOWN) {
                x.stand(k / 3, k % 3, standing[k]);
            }
        }
        String where = " on " + net + " law " + law;
        DUE.is("written(-1, 0)" + where, x.written(NONE, 0), many);
        DUE.is("written(-1, 1)" + where, x.written(NONE, 1), many);
        for (int i = 0; i < many && i < 200; i++) {
            DUE.is("written(" + i + ", 0)" + where, x.written(i, 0), pairs.get(2 * i));
            DUE.is("written(" + i + ", 1)" + where, x.written(i, 1), pairs.get(2 * i + 1));
        }
        if (many > 200) {
            DUE.is("the last of all" + where, x.written(many - 1, 0), pairs.get(2 * many - 2));
            DUE.is("the last of all" + where, x.written(many - 1, 1), pairs.get(2 * many - 1));
        }
        for (int i : new int[] {many, many + 1, -2, LEAST, MOST}) {
            DUE.is("written(" + i + ", 0)" + where, x.written(i, 0), NONE);
            DUE.is("written(" + i + ", 1)" + where, x.written(i, 1), NONE);
        }
    }

    private static void writtenByTries() {
        DUE.sentence("WRITTEN: pairs of SLIPS by which THE MEN as they are now come to a told standing");
        String two = STAR + "man 0 1;man 0 2;man 1 0;man 1 3;";
        for (int law = 0; law < 3; law++) {
            writtenAre(two, law, 1, 2, NONE, 0, 3, NONE);
            writtenAre(two, law, 0, 2, NONE, NONE, 3, NONE);
            writtenAre(two, law, 0, 1, NONE, 2, 3, NONE);
            writtenAre(two, law, 4, 5, NONE, 0, 6, NONE);
            writtenAre(two, law, NONE, 2, NONE, NONE, 3, NONE);
            writtenAre(two, law, 8, 8, NONE, 8, 8, NONE);
            writtenAre(STAR + "man 0 1;man 1 2;", law, NONE, NONE, NONE, NONE, NONE, NONE);
            writtenAre(STAR + "man 0 1;man 1 2;man 1 4;", law, 0, NONE, NONE, 1, 4, NONE);
        }
    }

    private static void writtenHowMany() {
        DUE.sentence("i = NONE how many; NONE: not so many (i below -1, too)");
        // of nine slips a side all but one leave its men where they are: 7, by which they change places
        BothWrite x = Due.withNet("fields 9;home 7 8;way 0 1;way 4 5;man 0 0;man 0 1;man 1 4;man 1 5;");
        x.stand(0, 0, 2);
        DUE.is("none", x.written(NONE, 0), 0);
        DUE.is("none, the first", x.written(0, 0), NONE);
        DUE.is("none, the first", x.written(0, 1), NONE);
        x.stand(0, 0, 0);
        DUE.is("all as it is", x.written(NONE, 0), 64);
        DUE.is("the 63rd", x.written(63, 0), HELP1 + 6 * HELP1);
        DUE.is("the 63rd", x.written(63, 1), HELP1 + 6 * HELP1);
        DUE.is("the 64th", x.written(64, 0), NONE);
        DUE.is("the 64th", x.written(64, 1), NONE);
        DUE.is("below -1", x.written(-2, 0), NONE);
        DUE.is("far below -1", x.written(LEAST, 1), NONE);
        DUE.is("far above", x.written(MOST, 1), NONE);
        DUE.is("999999", x.written(999999, 0), NONE);
        // the most that a table has: 25 slips a side, five orders a man
        String most = "fields 9;home 7 8;way 0 1;way 0 2;way 0 3;way 4 1;way 4 2;way 4 3;way 5 1;way 5 2;way 5 3;man 0 0;man 0 4;man 1 5;man 1 1;";
        x = Due.withNet(most);
        DUE.is("slips of side 0", x.slip(0, NONE), 25);
        DUE.is("slips of side 1", x.slip(1, NONE), 25);
        for (int law = 0; law < 3; law++) {
            writtenAre(most, law, 0, 4, NONE, 5, 1, NONE);
            writtenAre(most, law, 3, 2, NONE, 5, 0, NONE);
            writtenAre(most, law, 1, 4, NONE, NONE, 0, NONE);
        }
    }

    private static void writtenRising() {
        DUE.sentence("the i-th (side 0's SLIP rising, then side 1's)");
        BothWrite x = Due.withNet("fields 9;home 7 8;way 0 1;way 4 5;man 0 0;man 0 1;man 1 4;man 1 5;");
        int[] slips = {0, 1, 4, 6, 10, 24, 25, 28};
        for (int i = 0; i < 64; i++) {
            DUE.is("written(" + i + ", 0)", x.written(i, 0), slips[i / 8]);
            DUE.is("written(" + i + ", 1)", x.written(i, 1), slips[i % 8]);
        }
    }

    private static void standingsWithTheFallen() {
        DUE.sentence("A standing is told MAN by MAN: a FIELD, or NONE: it has fallen");
        BothWrite x = Due.withNet(STAR + "man 0 1;man 0 2;man 1 0;man 1 6;");
        x.stand(1, 0, NONE);
        DUE.is("it falls where it is, and the one stays on 1", x.written(NONE, 0), 0);
        x.stand(0, 0, 0);
        DUE.is("it falls, and the one comes to 0", x.written(0, 0), FELLS);
        x.move(FELLS, 0);
        x.stand(0, 0, 0);
        DUE.is("it has fallen, all else stays: how many", x.written(NONE, 0) > 0 ? 1 : 0, 1);
        DUE.is("the first of them", x.written(0, 0) + x.written(0, 1), 0);
        x.stand(1, 0, 0);
        DUE.is("one that has fallen stands nowhere", x.written(NONE, 0), 0);
        x.stand(1, 0, 8);
        DUE.is("one that has fallen stands nowhere", x.written(NONE, 0), 0);
        // a fallen man beside one on a field is not a man on the last field beside one on the field before
        x = Due.withNet("fields 9;home 6 7;way 3 4;way 3 5;way 4 5;man 0 1;man 0 3;man 1 4;man 1 5;");
        x.move(0, 1 + 6 * HELP1);
        DUE.is("the second of side 0 has fallen", x.man(0, 1), NONE);
        DUE.is("man(1, 0)", x.man(1, 0), 3);
        x.stand(1, 0, 3);
        for (int f = 0; f < 9; f++) {
            x.stand(0, 0, f);
            for (int g = NONE; g < 9; g++) {
                x.stand(0, 1, g);
                boolean asItIs = f == 1 && g == NONE;
                DUE.is("stands on " + f + ", " + g, x.written(NONE, 0) > 0 ? 1 : 0, asItIs ? 1 : 0);
            }
        }
    }

    private static void standingsAtFirst() {
        DUE.sentence("stand: at first all as they are told by net(): what it was");
        BothWrite x = Due.withNet(STAR + "man 1 6;man 0 1;man 1 3;man 0 2;");
        int[] fields = {1, 2, 6, 3};
        for (int k = 0; k < 4; k++) {
            DUE.is("stand " + k + " at first", x.stand(k / 2, k % 2, NONE), fields[k]);
            DUE.is("stand " + k + " fallen", x.stand(k / 2, k % 2, 0), NONE);
            DUE.is("stand " + k + " on 0", x.stand(k / 2, k % 2, 8), 0);
            DUE.is("stand " + k + " on 8", x.stand(k / 2, k % 2, 8), 8);
        }
        x.keep(0);
        x.move(0, 0);
        x.begin();
        x.goBack(0);
        DUE.is("it is as told behind move, begin, goBack", x.stand(0, 0, 1), 8);
        // the standing does not go with the men
        BothWrite y = Due.withNet(STAR + "man 0 1;man 1 3;");
        y.move(1, 0);
        DUE.is("stand is as told by net() behind a move", y.stand(0, 0, 1), 1);
    }

    // ---- games, logs

    private static void gamePlaces() {
        DUE.sentence("game: NONE: not so many (i below 0, too); late ones as all that stay: 0");
        BothWrite x = Due.withNet(LINE4);
        for (int what = 0; what < 2; what++) {
            DUE.is("game(0, " + what + ") of none", x.game(0, what), NONE);
            DUE.is("game(-1, " + what + ") of none", x.game(-1, what), NONE);
        }
        x.move(1, NONE);
        x.move(NONE, 2);
        int[][] slips = {{1, 0}, {0, 2}};
        for (int what = 0; what < 2; what++) {
            for (int i = 0; i < 2; i++) {
                DUE.is("game(" + i + ", " + what + ")", x.game(i, what), slips[i][what]);
            }
            for (int i : new int[] {-1, -2, 2, 3, 59, 60, 61, LEAST, MOST}) {
                DUE.is("game(" + i + ", " + what + ")", x.game(i, what), NONE);
            }
        }
        x.begin();
        DUE.is("game(0, 0) behind begin()", x.game(0, 0), NONE);
        // drifts are kept as well as moves
        x = Due.withNet(STILL);
        x.drift(60);
        DUE.is("game(59, 1)", x.game(59, 1), 0);
        DUE.is("game(60, 1)", x.game(60, 1), NONE);
    }

    private static void sixtyOfTheLog() {
        DUE.sentence("THE LOG tells pairs of SLIPS (60 at most)");
        BothWrite x = Due.withNet(STILL);
        for (int k = 1; k <= 60; k++) {
            DUE.is("log(0, -1)", x.log(0, NONE), k);
            DUE.is("told(6)", x.told(6), k);
        }
        DUE.is("a 61st", x.log(0, 0), BothWrite.FULL);
        DUE.is("told(6)", x.told(6), 60);
        DUE.is("judge() of sixty", x.judge(), NONE);
        DUE.is("clear()", x.clear(), 60);
        DUE.is("a first", x.log(0, 0), 1);
    }

    private static void logIsReadWhenAsked() {
        DUE.sentence("log: 0 .. 215 each, NONE: whether they may be written is judged, not logged");
        BothWrite x = Due.withNet(STILL);
        DUE.is("log(215, 215)", x.log(215, 215), 1);
        DUE.is("judge()", x.judge(), 0);
        x.clear();
        DUE.is("log(0, 0)", x.log(0, 0), 1);
        DUE.is("judge()", x.judge(), NONE);
        // a log that was told ahead of a net is none of it
        Due.feed(x, LINE4);
        x.net();
        DUE.is("told(6) behind net()", x.told(6), 0);
        DUE.is("clear() behind net()", x.clear(), 0);
    }

    private static void wrongFirst() {
        DUE.sentence("WRONG is the first pair that may not be written");
        BothWrite x = Due.withNet(LINE4);
        DUE.is("judge() of none", x.judge(), NONE);
        x.log(3, 0);
        DUE.is("side 0's is wrong", x.judge(), 0);
        x.log(0, 3);
        DUE.is("both pairs are: the first", x.judge(), 0);
        x.clear();
        x.log(0, 3);
        DUE.is("side 1's is wrong", x.judge(), 0);
        x.clear();
        x.log(NONE, NONE);
        x.log(0, 4);
        x.log(9, 9);
        DUE.is("the second", x.judge(), 1);
        // each side's slip is read by its own men
        x = Due.withNet(STAR + "man 0 4;man 0 5;man 0 0;man 1 1;");
        x.log(Scene.slipOf(1, 5, 3), 3);
        DUE.is("three men of side 0, one of side 1", x.judge(), NONE);
        x.log(0, 6);
        DUE.is("side 1 has no second man", x.judge(), 1);
        x = Due.withNet(STAR + "man 1 4;man 1 5;man 1 0;man 0 1;");
        x.log(3, Scene.slipOf(1, 5, 3));
        DUE.is("three men of side 1, one of side 0", x.judge(), NONE);
        x.log(6, 0);
        DUE.is("side 0 has no second man", x.judge(), 1);
        // by the slips of that moment: 2 is side 0's second way on 2, on 3 there is one way alone
        x = Due.withNet("fields 5;way 0 1;way 1 2;way 2 3;way 0 4;man 0 2;man 1 1;");
        x.log(2, 0);
        x.log(2, 0);
        DUE.is("a way that there was, and is not now", x.judge(), 1);
        x.clear();
        x.log(2, 0);
        x.log(1, 0);
        x.log(2, 0);
        DUE.is("a way that there is again", x.judge(), NONE);
    }

    private static void wrongBehindTheEnd() {
        DUE.sentence("WRONG: ... or stands behind the end");
        BothWrite x = Due.withNet(LINE4);
        x.log(2, 0);
        DUE.is("the last wins", x.judge(), NONE);
        x.log(NONE, NONE);
        DUE.is("one behind the end, late on both sides", x.judge(), 1);
        x.log(3, 0);
        DUE.is("two behind it", x.judge(), 1);
        x.clear();
        x.log(0, 1);
        x.log(0, 0);
        DUE.is("behind the end of side 1", x.judge(), 1);
        x.clear();
        x.log(2, 1);
        x.log(0, 0);
        DUE.is("behind a drawn end", x.judge(), 1);
        x.clear();
        x.law(2);
        x.log(1, 2);
        x.log(0, 0);
        DUE.is("behind the fall of both", x.judge(), 1);
        for (String over : new String[] {"fields 4;man 0 3;man 1 1;", "fields 4;man 0 1;man 1 0;", "fields 4;man 0 1;", "fields 4;", ""}) {
            BothWrite y = Due.withNet(over);
            DUE.is("judge() of none on '" + over + "'", y.judge(), NONE);
            y.log(NONE, NONE);
            DUE.is("over from the beginning on '" + over + "'", y.judge(), 0);
        }
    }

    private static void wrongLast() {
        DUE.sentence("WRONG: the sixtieth");
        BothWrite x = Due.withNet(LINE4);
        for (int k = 0; k < 59; k++) {
            x.log(0, 0);
        }
        x.log(0, 3);
        DUE.is("the last of sixty is wrong", x.judge(), 59);
        x = Due.withNet(LINE4);
        for (int k = 0; k < 58; k++) {
            x.log(0, NONE);
        }
        x.log(2, 0);
        DUE.is("the 59th wins", x.judge(), NONE);
        x.log(0, 0);
        DUE.is("the 60th stands behind the end", x.judge(), 59);
        DUE.is("replayed(0, 0)", x.replayed(0, 0), 3);
        // sixty moves of a log, and of a game, go the same ways
        x = Due.withNet(LINE9 + "man 0 3;man 1 6;");
        for (int k = 0; k < 60; k++) {
            int order = k % 2 == 0 ? 1 : 2;
            x.log(order, k < 59 ? order : NONE);
            x.move(order, k < 59 ? order : NONE);
        }
        DUE.is("told(5)", x.told(5), 60);
        DUE.is("judge()", x.judge(), NONE);
        DUE.is("man(0, 0)", x.man(0, 0), 3);
        DUE.is("man(1, 0)", x.man(1, 0), 5);
        DUE.is("replayed(0, 0) is man(0, 0)", x.replayed(0, 0), x.man(0, 0));
        DUE.is("replayed(1, 0) is man(1, 0)", x.replayed(1, 0), x.man(1, 0));
    }

    private static void replayedUpToWrong() {
        DUE.sentence("what a MAN's FIELD is behind the LOG (up to WRONG)");
        BothWrite x = Due.withNet(LINE9 + "man 0 3;man 1 6;");
        DUE.is("replayed(0, 0) of none", x.replayed(0, 0), 3);
        x.log(2, 0);
        DUE.is("behind one", x.replayed(0, 0), 4);
        x.log(1, 9);
        DUE.is("the second is wrong: it is not done, for side 0 neither", x.replayed(0, 0), 4);
        x.log(2, 0);
        DUE.is("nor is the third", x.replayed(0, 0), 4);
        DUE.is("replayed(1, 0)", x.replayed(1, 0), 6);
        x.clear();
        x.log(9, 1);
        DUE.is("the first is wrong", x.replayed(1, 0), 6);
        x = Due.withNet(LINE4);
        x.log(2, 0);
        x.log(1, 2);
        DUE.is("behind the end nothing is done", x.replayed(0, 0), 3);
        DUE.is("behind the end nothing is done", x.replayed(1, 0), 1);
        DUE.sentence("replayed: NONE: it has fallen");
        x = Due.withNet(STAR + "man 0 1;man 0 2;man 1 0;man 1 3;");
        x.log(FELLS, NONE);
        DUE.is("replayed(1, 0)", x.replayed(1, 0), NONE);
        DUE.is("replayed(1, 1)", x.replayed(1, 1), 3);
        DUE.is("man(1, 0) of the game", x.man(1, 0), 0);
    }

    private static void clears() {
        DUE.sentence("clear: THE LOG is empty: how many it had");
        BothWrite x = Due.withNet(LINE4);
        DUE.is("clear() of none", x.clear(), 0);
        x.log(0, 9);
        DUE.is("clear() of one", x.clear(), 1);
        DUE.is("clear() again", x.clear(), 0);
        DUE.is("told(6)", x.told(6), 0);
        DUE.is("judge()", x.judge(), NONE);
        DUE.is("replayed(0, 0)", x.replayed(0, 0), 2);
        x.log(1, 0);
        DUE.is("clear() leaves the game", x.told(5), 0);
        x.move(1, 0);
        DUE.is("clear() of one", x.clear(), 1);
        DUE.is("told(5) behind it", x.told(5), 1);
    }

    // ---- promises

    private static void openKeptBroken() {
        DUE.sentence("KEPT: it did; BROKEN: it did another; OPEN: that MOVE has not been");
        BothWrite x = Due.withNet(LINE4);
        DUE.is("promise", x.promise(0, 0, 1, 1), 0);
        DUE.is("promise of another order", x.promise(0, 0, 0, 1), 1);
        DUE.is("promise of the other side", x.promise(1, 0, 0, 1), 2);
        int[][] kept = {{0, 0, 0}, {0, 0, 0}, {1, 2, 2}, {1, 2, 2}};
        int[][] moves = {{0, 0}, {1, 2}, {0, 0}};
        for (int k = 0; k < kept.length; k++) {
            for (int i = 0; i < 3; i++) {
                DUE.is("kept(" + i + ") behind " + k + " moves", x.kept(i), kept[k][i]);
            }
            if (k < moves.length) {
                x.move(moves[k][0], moves[k][1]);
            }
        }
        x.begin();
        DUE.is("kept(0) from the beginning", x.kept(0), 0);
        x.move(0, 0);
        x.move(0, 0);
        DUE.is("kept(0) of another game", x.kept(0), 2);
        DUE.is("kept(1) of another game", x.kept(1), 1);
        DUE.is("kept(2) of another game", x.kept(2), 1);
    }

    private static void everyOrderKept() {
        DUE.sentence("promise: an ORDER (0 .. 5): each is kept by itself alone");
        String net = "fields 9;home 7 8;way 0 1;way 0 2;way 0 3;way 4 1;way 4 2;way 4 3;way 5 1;way 5 2;way 5 3;";
        for (int side = 0; side < 2; side++) {
            String men = "man " + side + " 0;man " + side + " 4;man " + side + " 5;man " + (1 - side) + " 6;";
            for (int m = 0; m < 3; m++) {
                for (int order = 0; order < 6; order++) {
                    BothWrite x = Due.withNet(net + men);
                    for (int p = 0; p < 6; p++) {
                        x.promise(side, m, p, 0);
                    }
                    x.promise(side, (m + 1) % 3, 0, 0);
                    int slip = order * (m == 0 ? 1 : m == 1 ? 6 : 36);
                    x.move(side == 0 ? slip : 0, side == 0 ? 0 : slip);
                    for (int p = 0; p < 6; p++) {
                        DUE.is("kept(" + p + ") of man " + m + " that did " + order, x.kept(p), p == order ? 1 : 2);
                    }
                    DUE.is("kept(6) of another that stayed", x.kept(6), 1);
                }
            }
        }
    }

    private static void hadFallen() {
        DUE.sentence("BROKEN: ... or had fallen");
        BothWrite x = Due.withNet(STAR + "man 0 1;man 0 2;man 1 0;man 1 3;");
        x.promise(1, 0, 0, 0);
        for (int order = 0; order < 6; order++) {
            x.promise(1, 0, order, 1);
        }
        x.promise(1, 1, 1, 1);
        x.move(FELLS, 0);
        DUE.is("it did, and fell in that move", x.kept(0), 1);
        for (int i = 1; i <= 6; i++) {
            DUE.is("it has fallen, that move has not been", x.kept(i), 0);
        }
        x.move(0, 1);
        for (int i = 1; i <= 6; i++) {
            DUE.is("it had fallen", x.kept(i), 2);
        }
        DUE.is("the second man is the first of that slip", x.kept(7), 1);
        // of either side any of three falls on 4; the others, on 1 and 2, are the first and the second of the next slip
        for (int side = 0; side < 2; side++) {
            for (int fallen = 0; fallen < 3; fallen++) {
                keptBeside(side, fallen);
            }
        }
    }

    private static void keptBeside(int side, int fallen) {
        String men = "man " + (1 - side) + " 5;man " + (1 - side) + " 6;man " + (1 - side) + " 0;";
        int next = 1;
        for (int m = 0; m < 3; m++) {
            men += "man " + side + " " + (m == fallen ? 4 : next++) + ";";
        }
        BothWrite x = Due.withNet("fields 9;home 7 8;way 4 5;way 4 6;way 5 6;way 0 1;way 0 2;way 1 2;" + men);
        int fells = 1 + 6 * HELP1;
        DUE.is("a man of side " + side + " falls", side == 0 ? x.move(0, fells) : x.move(fells, 0), 0);
        DUE.is("man " + fallen + " of side " + side, x.man(side, fallen), NONE);
        // the first of the two helps the second, which goes by its second way
        int slip = HELP1 + 6 * 2;
        DUE.is("a move of the two", side == 0 ? x.move(slip, 0) : x.move(0, slip), 0);
        int first = fallen == 0 ? 1 : 0;
        int second = fallen == 2 ? 1 : 2;
        String name = " of side " + side + " where " + fallen + " fell";
        for (int order = 0; order < 6; order++) {
            BothWrite y = x;
            int i = y.promise(side, order % 2 == 0 ? first : second, order, 1);
            int want = order == 4 ? 1 : 2;
            DUE.is("order " + order + name, y.kept(i), want);
        }
        int i = x.promise(side, second, 2, 1);
        DUE.is("the second's order" + name, x.kept(i), 1);
        i = x.promise(side, fallen, 0, 1);
        DUE.is("the fallen one's" + name, x.kept(i), 2);
    }

    private static void lateIsToStay() {
        DUE.sentence("A SLIP that came late, was lost: all stay: a promise to stay is kept");
        BothWrite x = Due.withNet(LINE4);
        x.promise(0, 0, 0, 0);
        x.promise(0, 0, 1, 0);
        x.promise(1, 0, 0, 0);
        x.promise(1, 0, 2, 0);
        x.move(NONE, NONE);
        int[] kept = {1, 2, 1, 2};
        for (int i = 0; i < 4; i++) {
            DUE.is("kept(" + i + ")", x.kept(i), kept[i]);
        }
    }

    private static void firstAndLastMove() {
        DUE.sentence("in MOVE m of THE GAME (0 .. 59)");
        BothWrite x = Due.withNet(LINE9 + "man 0 3;man 1 7;");
        x.promise(0, 0, 1, 0);
        x.promise(0, 0, 2, 59);
        x.promise(1, 0, 1, 59);
        x.promise(0, 0, 2, 58);
        for (int k = 0; k < 60; k++) {
            DUE.is("kept(0) behind " + k, x.kept(0), k == 0 ? 0 : 1);
            DUE.is("kept(1) behind " + k, x.kept(1), 0);
            DUE.is("kept(3) behind " + k, x.kept(3), k < 59 ? 0 : 2);
            x.move(k % 2 == 0 ? 1 : 2, 0);
        }
        DUE.is("kept(1) behind sixty", x.kept(1), 1);
        DUE.is("kept(2) behind sixty", x.kept(2), 2);
        DUE.is("a promise of the last, behind it", x.promise(0, 0, 1, 59), 4);
        DUE.is("kept(4)", x.kept(4), 2);
        DUE.is("a promise of the first, behind it", x.promise(1, 0, 0, 0), 5);
        DUE.is("kept(5)", x.kept(5), 1);
    }

    private static void promisesBehindTheEnd() {
        DUE.sentence("OPEN: that MOVE has not been: nor will it, when the game is over");
        BothWrite x = Due.withNet(LINE4);
        x.promise(0, 0, 2, 0);
        x.promise(0, 0, 0, 1);
        x.move(2, 0);
        DUE.is("told(10)", x.told(10), 1);
        DUE.is("kept(0) of the move that won", x.kept(0), 1);
        DUE.is("kept(1) of one behind the end", x.kept(1), 0);
        DUE.is("a promise when it is over", x.promise(1, 0, 0, 0), 2);
        DUE.is("kept(2)", x.kept(2), 1);
    }

    private static void eightPromises() {
        DUE.sentence("PROMISES (8 at most): its number");
        BothWrite x = Due.withNet(LINE4);
        for (int i = 0; i < 8; i++) {
            DUE.is("told(7)", x.told(7), i);
            DUE.is("promise", x.promise(i % 2, 0, i % 3, i / 4), i);
        }
        DUE.is("told(7)", x.told(7), 8);
        DUE.is("a ninth", x.promise(0, 0, 0, 0), BothWrite.FULL);
        x.move(1, 2);
        x.move(0, 0);
        // of side 0: orders 0, 2 in move 0, then 1, 0 in move 1; of side 1: 1, 0, then 2, 1
        int[] kept = {2, 2, 2, 2, 2, 2, 1, 2};
        for (int i = 0; i < 8; i++) {
            DUE.is("kept(" + i + ")", x.kept(i), kept[i]);
        }
        x.begin();
        DUE.is("promises are left by begin()", x.told(7), 8);
        x.clear();
        DUE.is("and by clear()", x.told(7), 8);
    }

    // ---- draws, images

    private static void seedAtFirst() {
        DUE.sentence("THE SEED (0 at first)");
        DUE.is("seed(5)", new BothWrite().seed(5), 0);
        BothWrite x = Due.withNet(STILL);
        DUE.is("seed(5) behind net()", x.seed(5), 0);
        DUE.is("seed(5) again", x.seed(5), 5);
    }

    private static long next(long seed) {
        return (seed * 1103515245L + 12345L) & 0x7fffffffL;
    }

    private static void seedWraps() {
        DUE.sentence("each DRAW it becomes it times 1103515245 and 12345, left over by 2 to the 31");
        // men that have one slip each: a draw is made all the same
        for (int seed : new int[] {0, 1, 2, 3, 1000, 65535, 65536, 1073741823, 1073741824, 2147483646, 2147483647}) {
            BothWrite x = Due.withNet(STILL);
            x.seed(seed);
            x.drift(1);
            DUE.is("two draws from " + seed, x.seed(seed), next(next(seed)));
            x.drift(30);
            long s = seed;
            for (int k = 0; k < 60; k++) {
                s = next(s);
            }
            DUE.is("sixty draws from " + seed, x.seed(0), s);
        }
        // by hand: 0, 12345, 1406932606
        BothWrite x = Due.withNet(STILL);
        x.drift(1);
        DUE.is("two draws from 0", x.seed(0), 1406932606);
    }

    private static void whatImagesKeep() {
        DUE.sentence("IMAGES keep MEN, THE GAME, THE SEED");
        BothWrite x = Due.withNet(STAR + "man 0 1;man 0 2;man 1 0;man 1 3;");
        x.seed(31);
        x.move(FELLS, 0);
        x.drift(2);
        int seed = x.seed(0);
        x.seed(seed);
        DUE.is("keep(0)", x.keep(0), 1);
        int[] men = new int[4];
        for (int k = 0; k < 4; k++) {
            men[k] = x.man(k / 2, k % 2);
        }
        int a = x.game(2, 0);
        int b = x.game(2, 1);
        x.promise(1, 1, b, 2);
        x.begin();
        for (int k = 0; k < 5; k++) {
            x.move(k == 1 ? 0 : 6, k == 1 ? 6 : 2);
        }
        DUE.is("kept(0) of another game", x.kept(0), 2);
        x.seed(8);
        x.law(2);
        x.log(0, 0);
        x.promise(0, 0, 1, 0);
        x.stand(0, 0, 6);
        DUE.is("goBack(0)", x.goBack(0), 1);
        for (int k = 0; k < 4; k++) {
            DUE.is("man " + k, x.man(k / 2, k % 2), men[k]);
        }
        DUE.is("told(5)", x.told(5), 3);
        DUE.is("game(0, 0)", x.game(0, 0), FELLS);
        DUE.is("game(0, 1)", x.game(0, 1), 0);
        DUE.is("game(2, 0)", x.game(2, 0), a);
        DUE.is("game(2, 1)", x.game(2, 1), b);
        DUE.is("game(3, 0)", x.game(3, 0), NONE);
        DUE.is("seed", x.seed(seed), seed);
        DUE.is("law is not kept", x.told(9), 2);
        DUE.is("the log is not kept", x.told(6), 1);
        DUE.is("promises are not kept", x.told(7), 2);
        DUE.is("kept(0) is of the game gone back to", x.kept(0), 1);
        DUE.is("kept(1) is of the game gone back to", x.kept(1), 1);
        DUE.is("the standing is not kept", x.stand(0, 0, 0), 6);
        DUE.is("begin() behind it", x.begin(), 3);
        DUE.is("man(1, 0) from the beginning", x.man(1, 0), 0);
    }

    private static void imagesOfTheEnds() {
        DUE.sentence("keep: IMAGE i becomes what is so; goBack: what is so becomes IMAGE i");
        // a game that is over, and one of no moves
        BothWrite x = Due.withNet(LINE4);
        x.keep(0);
        x.move(2, 0);
        x.keep(1);
        x.goBack(0);
        DUE.is("no moves: told(5)", x.told(5), 0);
        DUE.is("no moves: told(10)", x.told(10), 0);
        x.goBack(1);
        DUE.is("over: told(10)", x.told(10), 1);
        DUE.is("over: move(0, 0)", x.move(0, 0), NOT);
        DUE.is("over: safe(0, 0)", x.safe(0, 0), NOT);
        x.goBack(0);
        DUE.is("no moves: safe(0, 0)", x.safe(0, 0), 2);
        // a game of sixty
        x = Due.withNet(STILL);
        x.drift(60);
        x.keep(1);
        x.begin();
        DUE.is("goBack(1) to sixty", x.goBack(1), 1);
        DUE.is("told(5)", x.told(5), 60);
        DUE.is("move(0, 0)", x.move(0, 0), BothWrite.FULL);
        DUE.is("begin()", x.begin(), 60);
    }

    private static void imagesGone() {
        DUE.sentence("net: IMAGES are gone; goBack: NOT: it was not kept");
        for (String text : new String[] {"", LINE4, "fields 2;"}) {
            BothWrite x = Due.withNet(LINE4);
            x.keep(0);
            x.keep(1);
            Due.feed(x, "fields 4;way 0 0;");
            x.net();
            DUE.is("a fault leaves image 0", x.goBack(0), 1);
            DUE.is("a fault leaves image 1", x.goBack(1), 1);
            Due.feed(x, text);
            x.net();
            DUE.is("goBack(0) behind '" + text + "'", x.goBack(0), NOT);
            DUE.is("goBack(1) behind '" + text + "'", x.goBack(1), NOT);
            x.keep(1);
            DUE.is("goBack(0), the other kept", x.goBack(0), NOT);
            DUE.is("goBack(1), kept anew", x.goBack(1), 1);
        }
    }

    private static void twoImages() {
        DUE.sentence("IMAGES 0, 1");
        BothWrite x = Due.withNet(LINE4);
        x.seed(1);
        x.keep(0);
        x.seed(2);
        x.move(1, 0);
        x.keep(1);
        for (int k = 0; k < 3; k++) {
            x.goBack(0);
            DUE.is("seed of image 0", x.seed(9), 1);
            DUE.is("told(5) of image 0", x.told(5), 0);
            x.goBack(1);
            DUE.is("seed of image 1", x.seed(9), 2);
            DUE.is("told(5) of image 1", x.told(5), 1);
        }
        // kept again it is another
        x.move(0, 0);
        x.keep(0);
        x.begin();
        x.goBack(0);
        DUE.is("told(5) of image 0 kept again", x.told(5), 2);
        x.goBack(1);
        DUE.is("told(5) of image 1", x.told(5), 1);
    }

    /** All calls that but ask, on one of two objects that are alike. */
    private static void askingChangesNothing() {
        DUE.sentence("Nothing is promised beyond the answers and state changes described");
        for (int law = 0; law < 3; law++) {
            BothWrite x = rich(law);
            BothWrite y = rich(law);
            for (int k = 0; k < 6; k++) {
                x.told(k);
                x.ways(k);
                x.man(k / 3, k % 3);
                x.slip(k % 2, k);
                x.tried(k % 3, -1, k);
                x.pays(k % 3, -1);
                x.safe(k % 2, k / 3);
                x.answer(k % 2, 0);
                x.bounds(1 + 30 * k, k % 2);
                x.share(k % 2, 0, 1 + 20 * k);
                x.duel(k, 1, 2 * k);
                x.lot(k, 2, 1 + k, k % 2, k % 4);
                x.written(k - 2, k % 2);
                x.game(k, k % 2);
                x.judge();
                x.replayed(k / 3, k % 3);
                x.kept(k);
                x.fault();
            }
            Alike.are(DUE, "behind all that asks, law " + law, x, y);
        }
    }

    private static BothWrite rich(int law) {
        BothWrite x = Due.withNet(STAR + "man 0 1;man 0 2;man 1 0;man 1 3;");
        x.law(law);
        x.seed(17);
        x.move(0, 1);
        x.keep(1);
        x.move(FELLS, 2);
        x.log(0, 0);
        x.log(1, 1);
        x.promise(0, 0, 1, 1);
        x.promise(1, 1, 0, 2);
        x.stand(0, 1, 5);
        Due.feed(x, "fields 5;man 1 3");
        return x;
    }

    private static void calls512() {
        DUE.sentence("An object is used for at most 512 calls");
        BothWrite x = new BothWrite();
        int calls = 0;
        for (char c : LINE4.toCharArray()) {
            x.feed(1, c);
            calls++;
        }
        DUE.is("net()", x.net(), 2);
        calls++;
        while (calls < 510) {
            DUE.is("move " + calls, x.move(1, calls % 2 == 0 ? 0 : -1), 0);
            DUE.is("begin " + calls, x.begin(), 1);
            calls += 2;
        }
        while (calls < 511) {
            DUE.is("told(5)", x.told(5), 0);
            calls++;
        }
        DUE.is("the 512th", x.safe(0, 0), 2);
    }
}
