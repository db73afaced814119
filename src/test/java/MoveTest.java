/** Promises 9 to 14: slip, move, drift, begin, tried, pays, and how orders are worked. */
public final class MoveTest {
    private static final Due DUE = new Due("MoveTest");
    private static final int UNKNOWN = BothWrite.UNKNOWN, OUTSIDE = BothWrite.OUTSIDE, NOT = BothWrite.NOT,
        FULL = BothWrite.FULL, GONE = BothWrite.NONE;
    /** Field 0 has ways to 1, 2, 3; 1 and 2 have one to each other; 4, 5, 6 lie behind 1, 2, 3. */
    private static final String STAR = "fields 9;home 7 8;way 0 1;way 0 2;way 0 3;way 1 4;way 2 5;way 3 6;way 1 2;";
    private static final int STAY = 0, HELP1 = 4, HELP2 = 5;

    public static void main(String[] args) {
        goesOrThrownBack();
        strengthTells();
        helpersMustReach();
        helpIsCountedByNumbers();
        thrownBackThenBeaten();
        ownSide();
        rings();
        changingPlaces();
        slips();
        slipsBehindAFall();
        moves();
        ends();
        lateSlips();
        drifts();
        driftTillFull();
        begins();
        tries();
        pays();
        DUE.end();
    }

    private static int go(BothWrite x, int from, int to) {
        return Scene.go(x, from, to);
    }

    private static int slipOf(int... orders) {
        return Scene.slipOf(orders);
    }

    private static int[][] men(int... numbers) {
        return Scene.men(numbers);
    }

    private static void scene(String name, int law, int[][] men0, int[][] men1) {
        Scene.play(DUE, STAR, name, law, men0, men1);
    }

    private static void inAllLaws(String name, int[][] men0, int[][] men1) {
        for (int law = 0; law < 3; law++) {
            scene(name, law, men0, men1);
        }
    }

    private static void goesOrThrownBack() {
        inAllLaws("a man goes", men(1, 0, 0), men(5, -1, 5));
        inAllLaws("two to one field", men(1, 0, 1), men(2, 0, 2));
        inAllLaws("two of one side to one field", men(1, 0, 1, 2, 0, 2), men(6, -1, 6));
        inAllLaws("one who stays is not driven out", men(1, 0, 1), men(0, -1, 0));
        inAllLaws("where another leaves", men(1, 0, 0), men(0, 3, 3));
        inAllLaws("behind one thrown back", men(1, 0, 1, 6, 3, 6), men(0, 3, 0));
        inAllLaws("three to one field", men(1, 0, 1, 2, 0, 2), men(3, 0, 3));
    }

    private static void strengthTells() {
        inAllLaws("two against one who stays", men(1, 0, 0, 2, -4, 2), men(0, -1, GONE, 5, -1, 5));
        inAllLaws("two against two", men(1, 0, 1, 2, -4, 2), men(0, -1, 0, 3, -4, 3));
        inAllLaws("two against one who comes", men(1, 0, 0, 2, -4, 2), men(3, 0, 3));
        inAllLaws("side 1 is the stronger", men(0, -1, GONE, 4, -1, 4), men(2, -4, 2, 3, 0, 0));
        inAllLaws("a helper is beaten", men(0, -4, GONE, 4, 1, 1), men(2, -4, 2, 3, 0, 0));
        inAllLaws("the own field is held by strength", men(0, -1, 0, 2, -4, 2), men(3, 0, 3, 1, 0, 1));
        inAllLaws("two against one who leaves", men(1, 0, 0, 2, -4, 2), men(0, 3, 3));
    }

    private static void helpersMustReach() {
        inAllLaws("a helper too far off", men(1, 0, 1, 5, -4, 5), men(0, -1, 0));
        inAllLaws("a helper of one who stays, too far off", men(1, 0, 0, 2, -4, 2), men(0, -1, GONE, 6, -4, 6));
        inAllLaws("a helper by the field left, not by the goal", men(1, 0, 1, 4, -4, 4), men(0, -1, 0));
        inAllLaws("a helper on the goal", men(1, 0, 1, 0, -4, 0), men(3, 0, 3, 2, -4, 2));
        inAllLaws("both help each other", men(1, -4, 1, 2, -4, 2), men(0, 1, 0, 4, -4, 4));
    }

    private static void helpIsCountedByNumbers() {
        inAllLaws("0 helps the first other", men(2, -4, 2, 1, 0, 0, 5, -1, 5), men(0, -1, GONE, 6, -1, 6));
        inAllLaws("0 helps the second other", men(2, -5, 2, 5, -1, 5, 1, 0, 0), men(0, -1, GONE, 6, -1, 6));
        inAllLaws("1 helps the first other", men(1, 0, 0, 2, -4, 2, 5, -1, 5), men(0, -1, GONE, 6, -1, 6));
        inAllLaws("1 helps the second other", men(5, -1, 5, 2, -5, 2, 1, 0, 0), men(0, -1, GONE, 6, -1, 6));
        inAllLaws("2 helps the first other", men(1, 0, 0, 5, -1, 5, 2, -4, 2), men(0, -1, GONE, 6, -1, 6));
        inAllLaws("2 helps the second other", men(5, -1, 5, 1, 0, 0, 2, -5, 2), men(0, -1, GONE, 6, -1, 6));
        inAllLaws("2 helps one who stays", men(5, -1, 5, 1, 0, 1, 2, -4, 2), men(0, -1, 0, 6, -1, 6));
        inAllLaws("three against two", men(1, 0, 0, 2, -4, 2, 3, -4, 3), men(0, -1, GONE, 6, -1, 6, 4, -1, 4));
    }

    private static void thrownBackThenBeaten() {
        inAllLaws("thrown back into a stronger one", men(1, 0, 0, 2, -4, 2, 6, 3, 6), men(0, 3, GONE, 4, -1, 4));
        inAllLaws("thrown back, its help is gone", men(1, 0, 0, 2, -4, 2), men(0, 3, GONE, 6, -4, 6, 3, -1, 3));
    }

    private static void ownSide() {
        inAllLaws("its own side is not driven out", men(1, 0, 1, 2, -4, 2, 0, -1, 0), men(6, -1, 6));
        inAllLaws("its own side, and one of the other", men(1, 0, 1, 2, -4, 2, 0, -1, 0), men(3, 0, 3));
        inAllLaws("its own side beside a fall", men(0, -1, GONE, 1, 0, 1), men(2, -4, 2, 3, 0, 0));
        inAllLaws("two of a side change places", men(1, 2, 2, 2, 1, 1), men(6, -1, 6));
    }

    private static void rings() {
        inAllLaws("a ring goes round", men(0, 1, 1, 2, 0, 0), men(1, 2, 2));
        inAllLaws("a ring the other way", men(0, 2, 2, 2, 1, 1), men(1, 0, 0));
        inAllLaws("a ring that is stopped", men(0, 1, 0, 2, 0, 2), men(1, 2, 1, 3, 0, 3));
        inAllLaws("a ring beside a helper too far off", men(0, 1, 1, 3, -4, 3), men(1, 2, 2, 2, 0, 0));
    }

    private static void changingPlaces() {
        scene("alike", 0, men(1, 2, 2), men(2, 1, 1));
        scene("alike", 1, men(1, 2, 1), men(2, 1, 2));
        scene("alike", 2, men(1, 2, GONE), men(2, 1, GONE));
        scene("side 0 is helped", 0, men(1, 2, 2, 0, -4, 0), men(2, 1, 1));
        scene("side 0 is helped", 1, men(1, 2, 2, 0, -4, 0), men(2, 1, GONE));
        scene("side 0 is helped", 2, men(1, 2, GONE, 0, -4, 0), men(2, 1, GONE));
        scene("side 1 is helped", 0, men(1, 2, 2), men(4, -5, 4, 0, -1, 0, 2, 1, 1));
        scene("side 1 is helped", 1, men(1, 2, GONE), men(4, -5, 4, 0, -1, 0, 2, 1, 1));
        scene("both are helped", 0, men(1, 2, 2, 0, -4, 0), men(2, 1, 1, 4, -4, 4));
        scene("both are helped", 1, men(1, 2, 1, 0, -4, 0), men(2, 1, 2, 4, -4, 4));
        scene("both are helped", 2, men(1, 2, GONE, 0, -4, 0), men(2, 1, GONE, 4, -4, 4));
        scene("a third comes", 0, men(1, 2, 1, 4, 1, 4), men(2, 1, 2));
        scene("a third comes", 1, men(1, 2, 1, 4, 1, 4), men(2, 1, 2));
        scene("a third comes", 2, men(1, 2, GONE, 4, 1, 1), men(2, 1, GONE, 6, -1, 6));
        scene("thrown back, its help is gone", 1, men(1, 2, 1, 4, -1, 4), men(2, 1, 2, 5, -1, 5));
        scene("a third with help falls on one thrown back", 1, men(1, 2, 1, 5, 2, 2, 0, -5, 0), men(2, 1, GONE, 6, -1, 6));
        scene("two pairs at once", 2, men(1, 4, GONE, 0, 2, GONE), men(4, 1, GONE, 2, 0, GONE));
        scene("two pairs at once", 1, men(1, 4, 1, 0, 2, 0), men(4, 1, 4, 2, 0, 2));
        scene("two pairs at once", 0, men(1, 4, 4, 0, 2, 2), men(4, 1, 1, 2, 0, 0));
    }

    private static void slips() {
        BothWrite x = Due.withNet(STAR + "man 0 0;man 0 4;man 1 3;man 1 6;man 1 7;");
        // 0 has three ways, 4 one; each may help the other
        int[] first = {0, 1, 2, 3, 4, 6, 7, 8, 9, 10, 24, 25, 26, 27, 28};
        DUE.is("slip(0, -1)", x.slip(0, -1), first.length);
        for (int i = 0; i < first.length; i++) {
            DUE.is("slip(0, " + i + ")", x.slip(0, i), first[i]);
        }
        DUE.is("slip(0, 15)", x.slip(0, 15), -1);
        DUE.is("slip(0, -2)", x.slip(0, -2), -1);
        DUE.is("slip(0, most)", x.slip(0, Integer.MAX_VALUE), -1);
        // 3 has two ways, 6 one, 7 none; each may help two others
        DUE.is("slip(1, -1)", x.slip(1, -1), 5 * 4 * 3);
        DUE.is("slip(1, 3)", x.slip(1, 3), 4);
        DUE.is("slip(1, 9)", x.slip(1, 9), 6 + 5);
        DUE.is("slip(1, 10)", x.slip(1, 10), 24);
        DUE.is("slip(1, 20)", x.slip(1, 20), 144);
        DUE.is("slip(1, 59)", x.slip(1, 59), 215);
        DUE.is("a man that can but stay", Due.withNet("fields 4;man 0 1;").slip(0, -1), 1);
        DUE.is("slip(2, -1)", x.slip(2, -1), UNKNOWN);
        DUE.is("slip(-1, 0)", x.slip(-1, 0), UNKNOWN);
        DUE.is("an order by a way that there is not", x.tried(slipOf(STAY, 2), 0, 0), UNKNOWN);
        DUE.is("an order to help a man that there is not", x.tried(slipOf(HELP2, STAY), 0, 0), UNKNOWN);
        DUE.is("an order of a man that there is not", x.tried(slipOf(STAY, STAY, 1), 0, 0), UNKNOWN);
        DUE.is("a slip below NONE", x.tried(-2, 0, 0), UNKNOWN);
        DUE.is("a slip of the other side", x.tried(0, slipOf(3), 0), UNKNOWN);
        DUE.is("the greatest number", x.tried(Integer.MAX_VALUE, 0, 0), UNKNOWN);
        DUE.is("the least number", x.tried(0, Integer.MIN_VALUE, 0), UNKNOWN);
    }

    private static void slipsBehindAFall() {
        // man 0 of side 1 falls; then the others are the first and the second of its slips
        BothWrite x = Due.withNet(STAR + "man 0 1;man 0 2;man 1 0;man 1 3;man 1 6;");
        DUE.is("slip(1, -1)", x.slip(1, -1), 6 * 5 * 4);
        DUE.is("move", x.move(slipOf(go(x, 1, 0), HELP1), 0), 0);
        DUE.is("man(1, 0)", x.man(1, 0), GONE);
        DUE.is("told(2)", x.told(2), 2);
        DUE.is("slip(1, -1) behind a fall", x.slip(1, -1), 4 * 3);
        DUE.is("slip(1, 3)", x.slip(1, 3), HELP1);
        DUE.is("slip(1, 11)", x.slip(1, 11), slipOf(HELP1, HELP1));
        DUE.is("a second other that there is not", x.tried(0, slipOf(HELP2, STAY), 0), UNKNOWN);
        DUE.is("three orders of two men", x.tried(0, slipOf(STAY, STAY, 1), 0), UNKNOWN);
        // the men on 3 and 6 are the first and the second now: 3 to 0 fails, its help from 6 does not reach
        int weak = slipOf(go(x, 3, 0), HELP1);
        DUE.is("a weak attack", x.tried(0, weak, 5), 3);
        DUE.is("3 to 6, 6 to 3", x.tried(0, slipOf(go(x, 3, 6), go(x, 6, 3)), 5), 6);
        DUE.is("3 to 6, 6 to 3", x.tried(0, slipOf(go(x, 3, 6), go(x, 6, 3)), 6), 3);
        DUE.is("the fallen one", x.tried(0, 0, 4), GONE);
    }

    private static void moves() {
        BothWrite x = Due.withNet("fields 4;way 0 1;way 1 2;way 2 3;man 0 0;man 1 3;");
        DUE.is("move(2, 0)", x.move(2, 0), UNKNOWN);
        DUE.is("move(0, 2)", x.move(0, 2), UNKNOWN);
        DUE.is("move(-2, 0)", x.move(-2, 0), UNKNOWN);
        DUE.is("move(0, -2)", x.move(0, -2), UNKNOWN);
        DUE.is("told(5)", x.told(5), 0);
        for (int k = 1; k <= 60; k++) {
            DUE.is("move(0, 0)", x.move(0, 0), 0);
            DUE.is("told(5)", x.told(5), k);
        }
        DUE.is("a 61st", x.move(0, 0), FULL);
        DUE.is("a 61st that there is not", x.move(9, 0), UNKNOWN);
        DUE.is("told(5)", x.told(5), 60);
        DUE.is("begin()", x.begin(), 60);
        DUE.is("to 1", x.move(1, 0), 0);
        DUE.is("to 2", x.move(2, 0), 0);
        DUE.is("thrown back from 3", x.move(2, 0), 0);
        DUE.is("man(0, 0)", x.man(0, 0), 2);
        DUE.is("man(1, 0)", x.man(1, 0), 3);
    }

    private static void ends() {
        String line = "fields 4;way 0 1;way 1 2;way 2 3;";
        BothWrite x = Due.withNet(line + "man 0 2;man 1 1;");
        DUE.is("side 0 comes", x.tried(2, 0, 0), 1);
        DUE.is("side 1 comes", x.tried(0, 1, 0), 2);
        DUE.is("both come", x.tried(2, 1, 0), 3);
        DUE.is("none comes", x.tried(0, 0, 0), 0);
        x.law(2);
        DUE.is("both fall", x.tried(1, 2, 0), 3);
        x.law(0);
        DUE.is("move", x.move(2, 0), 1);
        DUE.is("move when it is over", x.move(0, 0), NOT);
        DUE.is("move when it is over, no slip", x.move(99, 0), UNKNOWN);
        DUE.is("drift when it is over", x.drift(1), NOT);
        DUE.is("drift(0)", x.drift(0), OUTSIDE);
        DUE.is("tried when it is over", x.tried(0, 0, 0), NOT);
        DUE.is("tried when it is over, what 7", x.tried(0, 0, 7), OUTSIDE);
        DUE.is("pays when it is over", x.pays(0, 0), NOT);
        DUE.is("pays when it is over, no slip", x.pays(0, 99), UNKNOWN);
        DUE.is("told(5)", x.told(5), 1);
        DUE.is("slip when it is over", x.slip(0, -1), 2);
        x = Due.withNet(line + "home 3 0;man 0 2;man 1 1;");
        DUE.is("own homes do not win", x.tried(2, 1, 0), 0);
        // side 1's last man falls
        x = Due.withNet(STAR + "man 0 1;man 0 2;man 1 0;");
        DUE.is("the last man falls", x.move(slipOf(go(x, 1, 0), HELP1), 0), 1);
        DUE.is("told(2)", x.told(2), 0);
        DUE.is("a side without men has one slip", x.slip(1, -1), 1);
        // one comes home while the other's last man falls
        x = Due.withNet("fields 6;home 5 4;way 0 1;way 0 2;way 3 4;man 0 1;man 0 2;man 0 3;man 1 0;");
        DUE.is("home, and the last man falls", x.tried(slipOf(1, HELP1, 1), 0, 0), 1);
    }

    private static void lateSlips() {
        BothWrite x = Due.withNet(STAR + "man 0 1;man 1 3;");
        DUE.is("move(-1, 1)", x.move(-1, 1), 0);
        DUE.is("man(0, 0)", x.man(0, 0), 1);
        DUE.is("man(1, 0)", x.man(1, 0), 0);
        DUE.is("game(0, 0)", x.game(0, 0), 0);
        DUE.is("game(0, 1)", x.game(0, 1), 1);
        DUE.is("move(1, -1)", x.move(1, -1), 0);
        DUE.is("man(0, 0)", x.man(0, 0), 1);
        DUE.is("tried(-1, -1, 4)", x.tried(-1, -1, 4), 0);
        DUE.is("pays(-1, -1)", x.pays(-1, -1), 500);
    }

    private static void drifts() {
        BothWrite x = Due.withNet(STAR + "man 0 1;man 0 6;man 1 3;man 1 5;");
        BothWrite y = Due.withNet(STAR + "man 0 1;man 0 6;man 1 3;man 1 5;");
        long seed = 123456789;
        x.seed((int) seed);
        for (int k = 0; k < 12; k++) {
            seed = (seed * 1103515245L + 12345L) & 0x7fffffffL;
            int a = x.slip(0, (int) (seed / 65536 % x.slip(0, -1)));
            seed = (seed * 1103515245L + 12345L) & 0x7fffffffL;
            int b = x.slip(1, (int) (seed / 65536 % x.slip(1, -1)));
            int how = y.move(a, b);
            DUE.is("drift(1)", x.drift(1), how);
            DUE.is("game(" + k + ", 0)", x.game(k, 0), a);
            DUE.is("game(" + k + ", 1)", x.game(k, 1), b);
            for (int m = 0; m < 4; m++) {
                DUE.is("man", x.man(m / 2, m % 2), y.man(m / 2, m % 2));
            }
        }
        DUE.is("seed", x.seed(123456789), seed);
        x.begin();
        DUE.is("drift(12) is as twelve of one", x.drift(12), y.told(10));
        DUE.is("game(11, 0)", x.game(11, 0), y.game(11, 0));
        DUE.is("game(11, 1)", x.game(11, 1), y.game(11, 1));
        DUE.is("seed", x.seed(0), seed);
        DUE.is("drift(0)", x.drift(0), OUTSIDE);
        DUE.is("drift(61)", x.drift(61), OUTSIDE);
        DUE.is("drift(-1)", x.drift(-1), OUTSIDE);
        DUE.is("told(5)", x.told(5), 12);
        DUE.is("seed 0 is as it was", x.seed(0), 0);
        // draws of one are draws, too: men without ways have one slip each
        x = Due.withNet("fields 4;man 0 1;man 1 2;");
        DUE.is("drift(2)", x.drift(2), 0);
        seed = 0;
        for (int k = 0; k < 4; k++) {
            seed = (seed * 1103515245L + 12345L) & 0x7fffffffL;
        }
        DUE.is("seed behind four draws", x.seed(0), seed);
    }

    private static void driftTillFull() {
        BothWrite x = Due.withNet("fields 4;man 0 1;man 1 2;");
        DUE.is("drift(58)", x.drift(58), 0);
        DUE.is("drift(3)", x.drift(3), FULL);
        DUE.is("told(5)", x.told(5), 60);
        int seed = x.seed(9);
        DUE.is("drift(1)", x.drift(1), FULL);
        DUE.is("seed is as it was", x.seed(9), 9);
        x.begin();
        x.seed(0);
        DUE.is("drift(60)", x.drift(60), 0);
        DUE.is("sixty take the same draws", x.seed(0), seed);
        // it ends by itself when one comes home, and asks for no draws then
        x = Due.withNet("fields 3;way 0 1;way 1 2;way 0 2;man 0 0;man 1 2;");
        int how = x.drift(60);
        DUE.is("it came to an end", how > 0 ? 1 : 0, 1);
        DUE.is("told(10)", x.told(10), how);
        DUE.is("before sixty", x.told(5) < 60 ? 1 : 0, 1);
        int moves = x.told(5);
        seed = x.seed(0);
        x.begin();
        DUE.is("drift of as many", x.drift(moves), how);
        DUE.is("takes as many draws", x.seed(0), seed);
    }

    private static void begins() {
        BothWrite x = Due.withNet(STAR + "man 0 1;man 0 2;man 1 0;man 1 6;");
        DUE.is("begin()", x.begin(), 0);
        x.seed(44);
        x.law(1);
        x.log(0, 0);
        x.promise(0, 0, 0, 0);
        x.move(slipOf(go(x, 1, 0), HELP1), 0);
        x.move(0, 0);
        DUE.is("man(1, 0)", x.man(1, 0), GONE);
        DUE.is("kept(0)", x.kept(0), 2);
        DUE.is("begin()", x.begin(), 2);
        int[] told = {9, 2, 2, 7, 8, 0, 1, 1, 0, 1, 0};
        for (int what = 0; what < told.length; what++) {
            DUE.is("told(" + what + ") behind begin()", x.told(what), told[what]);
        }
        DUE.is("man(0, 0)", x.man(0, 0), 1);
        DUE.is("man(1, 0)", x.man(1, 0), 0);
        DUE.is("kept(0)", x.kept(0), 0);
        DUE.is("game(0, 0)", x.game(0, 0), -1);
        DUE.is("seed", x.seed(0), 44);
    }

    private static void tries() {
        BothWrite x = Due.withNet(STAR + "man 0 1;man 0 5;man 1 3;");
        DUE.is("what 1", x.tried(1, 0, 1), 0);
        DUE.is("what 2", x.tried(1, 0, 2), 5);
        DUE.is("what 3, no man", x.tried(1, 0, 3), UNKNOWN);
        DUE.is("what 4", x.tried(1, 0, 4), 3);
        DUE.is("what 5, no man", x.tried(1, 0, 5), UNKNOWN);
        DUE.is("what 6, no man", x.tried(1, 0, 6), UNKNOWN);
        DUE.is("what 7", x.tried(1, 0, 7), OUTSIDE);
        DUE.is("what -1", x.tried(1, 0, -1), OUTSIDE);
        DUE.is("what 7, no slip", x.tried(99, 0, 7), UNKNOWN);
        DUE.is("nothing is changed", x.man(0, 0), 1);
        DUE.is("no move is made", x.told(5), 0);
        x = Due.withNet(STAR + "man 0 1;man 0 5;man 0 4;man 1 3;man 1 6;man 1 7;");
        DUE.is("it is over: side 1 on the other's home", x.tried(0, 0, 1), NOT);
        x = Due.withNet(STAR + "man 0 1;man 0 5;man 0 4;man 1 3;man 1 6;man 1 8;");
        DUE.is("what 3", x.tried(0, 0, 3), 4);
        DUE.is("what 6", x.tried(0, 0, 6), 8);
        DUE.is("what 7", x.tried(0, 0, 7), OUTSIDE);
    }

    private static void pays() {
        BothWrite x = Due.withNet(STAR + "man 0 1;man 0 2;man 1 0;man 1 6;man 1 5;");
        int fells = slipOf(go(x, 1, 0), HELP1);
        DUE.is("two against three", x.pays(0, 0), 400);
        DUE.is("two against two behind a fall", x.pays(fells, 0), 500);
        DUE.is("pays(99, 0)", x.pays(99, 0), UNKNOWN);
        DUE.is("pays(0, 999)", x.pays(0, 999), UNKNOWN);
        DUE.is("pays(-2, 0)", x.pays(-2, 0), UNKNOWN);
        DUE.is("pays(-1, -1)", x.pays(-1, -1), 400);
        DUE.is("pays(fells, -1)", x.pays(fells, -1), 500);
        x = Due.withNet(STAR + "man 0 1;man 0 2;man 0 4;man 1 0;");
        DUE.is("three against one", x.pays(0, 0), 700);
        x = Due.withNet(STAR + "man 1 1;man 1 2;man 1 4;man 0 0;");
        DUE.is("one against three", x.pays(0, 0), 300);
        x = Due.withNet("fields 4;way 0 1;way 1 2;way 2 3;man 0 2;man 1 1;man 1 3;");
        DUE.is("side 1 comes", x.pays(0, 1), 0);
        DUE.is("none comes", x.pays(0, 0), 400);
        x = Due.withNet("fields 4;way 0 1;way 1 2;way 2 3;man 0 2;man 0 0;man 1 1;");
        DUE.is("side 0 comes", x.pays(2, 0), 1000);
        x = Due.withNet("fields 5;way 0 1;way 1 2;way 2 4;man 0 2;man 0 3;man 1 1;");
        DUE.is("both come, and one side has more men", x.pays(2, 1), 500);
    }
}
