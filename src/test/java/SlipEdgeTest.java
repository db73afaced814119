import java.util.ArrayList;
import java.util.List;

/**
 * The document's second numbered part and promises 9 to 13, sentence by sentence: which slips there
 * are, how they are worked, when a game is over, how many moves there may be.
 */
public final class SlipEdgeTest {
    private static final Due DUE = new Due("SlipEdgeTest");
    private static final int UNKNOWN = BothWrite.UNKNOWN, NOT = BothWrite.NOT, FULL = BothWrite.FULL,
        GONE = BothWrite.NONE;
    /** Field 0 has ways to 1, 2, 3; 1 and 2 have one to each other; 4, 5, 6 lie behind 1, 2, 3; the homes lie apart. */
    private static final String STAR = "fields 9;home 7 8;way 0 1;way 0 2;way 0 3;way 1 4;way 2 5;way 3 6;way 1 2;";
    /** Fields 0 to 8, each with a way to the next; the homes are its ends. */
    private static final String LINE = "fields 9;way 0 1;way 1 2;way 2 3;way 3 4;way 4 5;way 5 6;way 6 7;way 7 8;";
    /** Fields 0 to 5 in a ring; 6 has a way to 0; the homes lie apart. */
    private static final String RING = "fields 9;home 7 8;way 0 1;way 1 2;way 2 3;way 3 4;way 4 5;way 5 0;way 6 0;";
    /** Two nets apart: 4, 5, 6 and 0, 1, 2, each field with ways to both others. */
    private static final String APART = "fields 9;home 7 8;way 4 5;way 4 6;way 5 6;way 0 1;way 0 2;way 1 2;";
    private static final int HELP1 = 4;

    public static void main(String[] args) {
        ordersByWays();
        ordersToHelp();
        slipsOfThree();
        slipsOfNobody();
        whoIsHelped();
        othersThatHaveNotFallen();
        whichSlip();
        lateOnes();
        helpOfNoUse();
        mostStrength();
        twoAlike();
        oneAlone();
        oneWithMore();
        ownSideIsNotBeaten();
        thrownBackHasStrength1();
        againAndAgain();
        rings();
        placesChangedByLaw();
        placesChangedOfOneSide();
        behindPlacesChanged();
        wonAtTheEnd();
        ownHome();
        lastMan();
        overFromTheBeginning();
        sixtyMoves();
        driftTillOver();
        driftToTheLastMove();
        driftDraws();
        beginsAgain();
        triesChangeNothing();
        DUE.end();
    }

    private static void inAllLaws(String net, String name, int[][] men0, int[][] men1) {
        for (int law = 0; law < 3; law++) {
            Scene.play(DUE, net, name, law, men0, men1);
        }
    }

    private static int[][] men(int... numbers) {
        return Scene.men(numbers);
    }

    // ---- orders, slips

    /** The document's words on one order, of a man with so many ways and so many others of its side. */
    private static boolean mayBe(int order, int ways, int others) {
        return order == 0 || order >= 1 && order <= ways || order >= 4 && order <= 3 + others;
    }

    /** All numbers from -3 to 260 as slips of a side whose men have so many ways each. */
    private static void slipsOf(int side, int... ways) {
        String[] fields = {"5", "4", "1", "0"};
        StringBuilder net = new StringBuilder("fields 9;home 7 8;way 0 1;way 0 2;way 0 3;way 1 4;");
        List<String> taken = new ArrayList<>();
        for (int w : ways) {
            String field = taken.contains(fields[w]) ? w == 0 ? "6" : w == 1 ? "3" : "" : fields[w];
            taken.add(field);
            net.append("man ").append(side).append(' ').append(field).append(';');
        }
        net.append("man ").append(1 - side).append(" 2;");
        List<Integer> may = new ArrayList<>();
        for (int number = -3; number <= 260; number++) {
            boolean all = number >= 0;
            int rest = number;
            for (int w : ways) {
                all &= mayBe(rest % 6, w, ways.length - 1);
                rest /= 6;
            }
            all &= rest == 0;
            if (all) {
                may.add(number);
            }
        }
        BothWrite x = Due.withNet(net.toString());
        for (int number = -3; number <= 260; number++) {
            if (number != -1) {
                int got = side == 0 ? x.tried(number, 0, 0) : x.tried(0, number, 0);
                DUE.is(number + " on " + net, got == UNKNOWN ? 0 : 1, may.contains(number) ? 1 : 0);
            }
        }
        BothWrite y = Due.withNet(net.toString());
        DUE.is("how many on " + net, y.slip(side, -1), may.size());
        for (int i = 0; i < may.size(); i++) {
            DUE.is("slip " + i + " on " + net, y.slip(side, i), may.get(i));
        }
        DUE.is("one more on " + net, y.slip(side, may.size()), GONE);
    }

    private static void ordersByWays() {
        DUE.sentence("1 to 3 to go by way 0 to 2; an ORDER by a way that there is not may not be written");
        for (int side = 0; side < 2; side++) {
            for (int w = 0; w <= 3; w++) {
                slipsOf(side, w);
            }
        }
    }

    private static void ordersToHelp() {
        DUE.sentence("4, 5 to help the first, the second other MAN; to help a MAN that there is not may not be written");
        for (int side = 0; side < 2; side++) {
            for (int w = 0; w <= 3; w++) {
                slipsOf(side, w, 0);
                slipsOf(side, 0, w);
                slipsOf(side, 1, w);
            }
            slipsOf(side, 3, 2);
            slipsOf(side, 2, 3);
        }
    }

    private static void slipsOfThree() {
        DUE.sentence("the ORDER of the first one, and 6 times that of the second, and 36 times that of the third");
        for (int side = 0; side < 2; side++) {
            slipsOf(side, 3, 2, 1);
            slipsOf(side, 1, 2, 3);
            slipsOf(side, 2, 0, 3);
            slipsOf(side, 0, 0, 1);
            slipsOf(side, 1, 1, 0);
        }
        // all three have three ways: each number to 215 may be written
        String all = "fields 9;home 7 8;way 0 1;way 0 2;way 0 3;way 4 1;way 4 2;way 4 3;way 5 1;way 5 2;way 5 3;man 0 0;man 0 4;man 0 5;man 1 6;";
        BothWrite x = Due.withNet(all);
        DUE.is("slip(0, -1) of three with three ways", x.slip(0, -1), 216);
        DUE.is("slip(0, 215)", x.slip(0, 215), 215);
        DUE.is("slip(0, 216)", x.slip(0, 216), GONE);
        for (int slip = 0; slip < 216; slip++) {
            DUE.is("slip(0, " + slip + ")", x.slip(0, slip), slip);
        }
        DUE.is("tried(215, 0, 0)", x.tried(215, 0, 0), 0);
        DUE.is("tried(216, 0, 0)", x.tried(216, 0, 0), UNKNOWN);
    }

    private static void slipsOfNobody() {
        DUE.sentence("an ORDER for each of its MEN that have not fallen: of none");
        BothWrite x = Due.withNet(STAR + "man 0 1;man 0 2;man 1 0;");
        x.move(1 + 6 * HELP1, 0);
        DUE.is("told(2)", x.told(2), 0);
        DUE.is("slip(1, -1)", x.slip(1, -1), 1);
        DUE.is("slip(1, 0)", x.slip(1, 0), 0);
        DUE.is("slip(1, 1)", x.slip(1, 1), GONE);
        DUE.is("tried(0, 0, 0)", x.tried(0, 0, 0), NOT);
        DUE.is("tried(0, 1, 0)", x.tried(0, 1, 0), UNKNOWN);
        DUE.is("answer(0, 0)", x.answer(0, 0), NOT);
        DUE.is("answer(0, 1)", x.answer(0, 1), UNKNOWN);
    }

    /** Of three of a side one goes from 1 to 0, where one of the other stays; one on 2 helps it, or the one far off. */
    private static void whoIsHelped() {
        DUE.sentence("4, 5 to help the first, the second other MAN of its SIDE");
        String net = "fields 9;home 7 8;way 0 1;way 0 2;way 1 2;";
        for (int side = 0; side < 2; side++) {
            // the attacker, the helper and one that is far off, in all places
            int[][] places = {{0, 1, 2}, {0, 2, 1}, {1, 0, 2}, {1, 2, 0}, {2, 0, 1}, {2, 1, 0}};
            for (int[] p : places) {
                int[] fields = new int[3];
                fields[p[0]] = 1;
                fields[p[1]] = 2;
                fields[p[2]] = 5;
                String men = "";
                for (int f : fields) {
                    men += "man " + side + " " + f + ";";
                }
                BothWrite x = Due.withNet(net + men + "man " + (1 - side) + " 0;");
                int[] weight = {1, 6, 36};
                int first = p[1] == 0 ? 1 : 0;
                int helps = p[0] == first ? 4 : 5;
                int right = weight[p[0]] + helps * weight[p[1]];
                int other = weight[p[0]] + (9 - helps) * weight[p[1]];
                String name = "side " + side + ", " + p[1] + " helps " + p[0];
                int victim = side == 0 ? 4 : 1;
                DUE.is(name, side == 0 ? x.tried(right, 0, victim) : x.tried(0, right, victim), GONE);
                DUE.is(name + " not, but the third", side == 0 ? x.tried(other, 0, victim) : x.tried(0, other, victim), 0);
            }
        }
    }

    /** A man of side 1 falls on 4; the others, on 1 and on 2, are the first and the second then. */
    private static void othersThatHaveNotFallen() {
        DUE.sentence("by numbers, of those that have not fallen");
        int[][] places = {{4, 1, 2}, {4, 2, 1}, {1, 4, 2}, {2, 4, 1}, {1, 2, 4}, {2, 1, 4}};
        for (int[] p : places) {
            String name = "men on " + p[0] + ", " + p[1] + ", " + p[2];
            BothWrite x = Due.withNet(APART + "man 0 5;man 0 6;man 0 0;man 1 " + p[0] + ";man 1 " + p[1] + ";man 1 " + p[2] + ";");
            DUE.is(name + ": slip(1, -1)", x.slip(1, -1), 125);
            DUE.is(name + ": a man falls", x.move(Scene.slipOf(1, HELP1, 0), 0), 0);
            DUE.is(name + ": told(2)", x.told(2), 2);
            DUE.is(name + ": slip(1, -1)", x.slip(1, -1), 16);
            DUE.is(name + ": slip(1, 15)", x.slip(1, 15), Scene.slipOf(HELP1, HELP1));
            DUE.is(name + ": help of a second other", x.tried(0, Scene.slipOf(5, 0), 0), UNKNOWN);
            DUE.is(name + ": help of a second other", x.tried(0, Scene.slipOf(0, 5), 0), UNKNOWN);
            DUE.is(name + ": an order of a third", x.tried(0, 36, 0), UNKNOWN);
            int first = p[0] == 4 ? p[1] : p[0];
            // the one on 1 goes to 0, where a man of side 0 stays; the one on 2 helps it
            int slip = first == 1 ? Scene.slipOf(1, HELP1) : Scene.slipOf(HELP1, 1);
            DUE.is(name + ": the third of side 0 falls", x.tried(0, slip, 3), GONE);
            DUE.is(name + ": alone it is thrown back", x.tried(0, first == 1 ? 1 : 6, 3), 0);
        }
    }

    private static void whichSlip() {
        DUE.sentence("slip: the i-th of them; NONE: not so many (i = NONE: how many)");
        BothWrite x = Due.withNet(STAR + "man 0 1;man 1 6;");
        DUE.is("slip(0, -1)", x.slip(0, -1), 4);
        DUE.is("slip(0, 0)", x.slip(0, 0), 0);
        DUE.is("slip(0, 3)", x.slip(0, 3), 3);
        DUE.is("slip(0, 4)", x.slip(0, 4), GONE);
        DUE.is("slip(1, -1)", x.slip(1, -1), 2);
        DUE.is("slip(1, 1)", x.slip(1, 1), 1);
        DUE.is("slip(1, 2)", x.slip(1, 2), GONE);
        DUE.is("slip(0, -2)", x.slip(0, -2), GONE);
        DUE.is("slip(0, least)", x.slip(0, Integer.MIN_VALUE), GONE);
        DUE.is("slip(0, most)", x.slip(0, Integer.MAX_VALUE), GONE);
    }

    private static void lateOnes() {
        DUE.sentence("A SLIP that came late, was lost: all stay");
        String net = STAR + "man 0 1;man 0 5;man 1 3;man 1 6;";
        int goes0 = Scene.slipOf(3, 0);
        int goes1 = Scene.slipOf(1, 0);
        int[][] pairs = {{-1, -1, 1, 5, 3, 6}, {goes0, -1, 4, 5, 3, 6}, {-1, goes1, 1, 5, 0, 6}, {0, 0, 1, 5, 3, 6}};
        for (int[] p : pairs) {
            BothWrite x = Due.withNet(net);
            String name = "(" + p[0] + ", " + p[1] + ")";
            int[] whats = {1, 2, 4, 5};
            for (int k = 0; k < 4; k++) {
                DUE.is("tried" + name + " " + whats[k], x.tried(p[0], p[1], whats[k]), p[2 + k]);
            }
            DUE.is("pays" + name, x.pays(p[0], p[1]), 500);
            DUE.is("move" + name, x.move(p[0], p[1]), 0);
            for (int k = 0; k < 4; k++) {
                DUE.is("man behind move" + name, x.man(k / 2, k % 2), p[2 + k]);
            }
            DUE.is("game(0, 0) behind move" + name, x.game(0, 0), Math.max(0, p[0]));
            DUE.is("game(0, 1) behind move" + name, x.game(0, 1), Math.max(0, p[1]));
        }
    }

    // ---- how slips are worked

    private static void helpOfNoUse() {
        DUE.sentence("STRENGTH: 1, and 1 for each MAN that helps it whose FIELD has a way to that GOAL (or is it)");
        inAllLaws(STAR, "its field has a way", men(1, 0, 0, 2, -4, 2), men(0, -1, GONE, 6, -1, 6));
        inAllLaws(STAR, "its field has none", men(1, 0, 1, 5, -4, 5), men(0, -1, 0, 6, -1, 6));
        inAllLaws(STAR, "its field has one to where the other comes from, not to its goal", men(1, 0, 1, 4, -4, 4), men(0, -1, 0, 6, -1, 6));
        inAllLaws(STAR, "its field is that goal", men(1, 0, 1, 0, -4, 0), men(3, 0, 3));
        inAllLaws(STAR, "of one that stays, its field has a way", men(0, -1, 0, 2, -4, 2), men(1, 0, 1, 4, -1, 4));
        inAllLaws(STAR, "of one that stays, against two", men(0, -1, 0, 2, -4, 2), men(1, 0, 1, 3, -4, 3));
        inAllLaws(STAR, "of one that stays, of no use", men(0, -1, GONE, 5, -4, 5), men(1, 0, 0, 3, -4, 3));
        inAllLaws(STAR, "of one that helps", men(0, -4, 0, 2, -4, 2), men(1, 0, 1, 3, -4, 3));
    }

    /** On its own field a helper is no comer, so 2 helped from its goal, 3 from beside it come to like ends. */
    private static void mostStrength() {
        DUE.sentence("1 for each MAN that helps it: two at most");
        inAllLaws(STAR, "three against one", men(1, 0, 0, 2, -4, 2, 3, -4, 3), men(0, -1, GONE, 6, -1, 6));
        inAllLaws(STAR, "three against one helped", men(1, 0, 0, 2, -4, 2, 4, -1, 4), men(0, -1, GONE, 6, -4, 6));
        inAllLaws(STAR, "three against two", men(0, -1, 0, 1, -4, 1, 2, -4, 2), men(3, 0, 3, 6, -4, 6));
        inAllLaws(STAR, "two against three", men(0, -1, 0, 1, -4, 1, 2, -4, 2), men(3, 0, 3));
        inAllLaws(STAR, "side 1, three against one", men(0, -1, GONE, 6, -1, 6), men(4, -1, 4, 1, -5, 1, 3, 0, 0));
    }

    private static void twoAlike() {
        DUE.sentence("if not: all whose own FIELD it is not are THROWN BACK");
        inAllLaws(STAR, "two come", men(1, 0, 1), men(2, 0, 2));
        inAllLaws(STAR, "one stays, one comes", men(0, -1, 0), men(2, 0, 2));
        inAllLaws(STAR, "three come", men(1, 0, 1), men(2, 0, 2, 3, 0, 3));
        inAllLaws(STAR, "one stays, two come", men(0, -1, 0), men(2, 0, 2, 3, 0, 3));
        inAllLaws(STAR, "one stays, three come", men(0, -1, 0, 1, 0, 1), men(2, 0, 2, 3, 0, 3));
        inAllLaws(STAR, "of one side", men(0, -1, 0, 1, 0, 1, 2, 0, 2), men(6, -1, 6));
        inAllLaws(STAR, "two with help each", men(1, 0, 1, 2, -4, 2), men(0, -1, 0, 3, -4, 3));
    }

    private static void oneAlone() {
        DUE.sentence("a FIELD that is GOAL of two MEN or more: not of one");
        inAllLaws(STAR, "one comes", men(1, 0, 0), men(6, -1, 6));
        inAllLaws(STAR, "one comes where one leaves", men(1, 0, 0), men(0, 3, 3));
        inAllLaws(STAR, "one comes where one leaves, of one side", men(1, 0, 0, 0, 2, 2), men(6, -1, 6));
        inAllLaws(LINE, "six in a row", men(1, 2, 2, 3, 4, 4, 5, 6, 6), men(2, 3, 3, 4, 5, 5, 6, 7, 7));
        inAllLaws(LINE, "six in a row the other way", men(2, 1, 1, 4, 3, 3, 6, 5, 5), men(3, 2, 2, 5, 4, 4, 7, 6, 6));
    }

    private static void oneWithMore() {
        DUE.sentence("the others fall, if it is their own FIELD and the one is of the other SIDE, else they are THROWN BACK");
        inAllLaws(STAR, "one falls", men(1, 0, 0, 2, -4, 2), men(0, -1, GONE, 6, -1, 6));
        inAllLaws(STAR, "one is thrown back", men(1, 0, 0, 2, -4, 2), men(3, 0, 3, 6, -1, 6));
        inAllLaws(STAR, "one falls, one is thrown back", men(1, 0, 0, 2, -4, 2), men(0, -1, GONE, 3, 0, 3));
        inAllLaws(STAR, "one that was thrown back to its own field falls", men(1, 0, 0, 2, -4, 2), men(0, 3, GONE, 3, -1, 3));
        inAllLaws(STAR, "one of its own side is thrown back", men(1, 0, 0, 2, -4, 2, 3, 0, 3), men(6, -1, 6));
        inAllLaws(STAR, "the one whose own field it is", men(0, -1, 0, 1, -4, 1), men(2, 0, 2, 3, 0, 3));
        inAllLaws(STAR, "one that helps falls, its help counts", men(0, -4, GONE, 6, 3, 3), men(1, 0, 0, 2, -4, 2));
    }

    private static void ownSideIsNotBeaten() {
        DUE.sentence("a MAN whose own FIELD it is, beaten by one of its own SIDE: then that one is THROWN BACK in its place");
        inAllLaws(STAR, "side 0", men(1, 0, 1, 2, -4, 2, 0, -1, 0), men(6, -1, 6));
        inAllLaws(STAR, "side 1", men(6, -1, 6), men(0, -1, 0, 1, 0, 1, 2, -5, 2));
        inAllLaws(STAR, "and one of the other is thrown back", men(1, 0, 1, 2, -4, 2, 0, -1, 0), men(3, 0, 3));
        inAllLaws(STAR, "thrown back to its own field", men(1, 0, 1, 2, -4, 2, 0, 3, 0), men(6, 3, 6));
        inAllLaws(STAR, "and it is the stronger's field again", men(1, 0, 1, 2, -4, 2, 0, -1, 0), men(4, 1, 4, 6, -1, 6));
    }

    private static void thrownBackHasStrength1() {
        DUE.sentence("THROWN BACK: GOAL is its own FIELD, STRENGTH 1");
        // 0 goes to 3 with help of 6, where one of its own side stays; it had strength 2 and has 1 then
        inAllLaws(STAR, "two against one that was thrown back", men(1, 0, 0, 2, -4, 2), men(0, 3, GONE, 6, -4, 6, 3, -1, 3));
        inAllLaws(STAR, "one against one that was thrown back", men(1, 0, 1, 2, -1, 2), men(0, 3, 0, 6, -4, 6, 3, -1, 3));
        inAllLaws(STAR, "side 1, two against one that was thrown back", men(0, 3, GONE, 6, -4, 6, 3, -1, 3), men(1, 0, 0, 2, -4, 2));
    }

    private static void againAndAgain() {
        DUE.sentence("again and again till nothing changes");
        inAllLaws(LINE, "six in a row, the first stays", men(1, 2, 1, 3, 4, 3, 5, 6, 5), men(2, 3, 2, 4, 5, 4, 6, -1, 6));
        inAllLaws(LINE, "six in a row, the last stays", men(2, -1, 2, 4, 3, 4, 6, 5, 6), men(3, 2, 3, 5, 4, 5, 7, 6, 7));
        inAllLaws(LINE, "six in a row, barred by two who come to one field", men(1, 2, 1, 2, 3, 2, 3, 4, 3), men(4, 5, 4, 6, 5, 6));
        inAllLaws(STAR, "one falls behind one thrown back, and makes room", men(1, 0, 0, 2, -4, 2, 4, 1, 1), men(0, 3, GONE, 3, -1, 3));
        inAllLaws(STAR, "one falls behind two thrown back", men(1, 0, 0, 2, -4, 2), men(0, 3, GONE, 3, 6, 3, 6, -1, 6));
        inAllLaws(STAR, "one is thrown back behind three", men(4, 1, 4, 1, 0, 1), men(0, 3, 0, 3, 6, 3, 6, -1, 6));
    }

    private static void rings() {
        DUE.sentence("rings that go round");
        inAllLaws(STAR, "three", men(0, 1, 1, 2, 0, 0), men(1, 2, 2));
        inAllLaws(RING, "six", men(0, 1, 1, 2, 3, 3, 4, 5, 5), men(1, 2, 2, 3, 4, 4, 5, 0, 0));
        inAllLaws(RING, "six the other way", men(0, 5, 5, 2, 1, 1, 4, 3, 3), men(1, 0, 0, 3, 2, 2, 5, 4, 4));
        inAllLaws(RING, "six, one stays", men(0, 1, 0, 2, 3, 2, 4, 5, 4), men(1, 2, 1, 3, 4, 3, 5, -1, 5));
        inAllLaws(RING, "five, one from beside comes", men(0, 1, 1, 2, 3, 3, 6, 0, 0), men(1, 2, 2, 3, 4, 4, 4, 5, 5));
        inAllLaws("fields 9;home 7 8;way 0 1;way 1 2;way 2 3;way 3 4;way 4 0;way 6 0;", "five, a sixth bars them",
            men(0, 1, 0, 2, 3, 2, 6, 0, 6), men(1, 2, 1, 3, 4, 3, 4, 0, 4));
        for (int law = 0; law < 3; law++) {
            Scene.play(DUE, "fields 9;home 7 8;way 0 1;way 1 2;way 2 3;way 3 0;", "four of one and of the other", law,
                men(0, 1, 1, 1, 2, 2), men(2, 3, 3, 3, 0, 0));
        }
    }

    private static void placesChangedByLaw() {
        DUE.sentence("LAW 0 both pass; LAW 1 the one of less STRENGTH is THROWN BACK, both, if alike; LAW 2 both fall");
        // of side 0: strength 1, 2, 3; of side 1 likewise; 4 has ways to 0, 2, 5 and 5 to 1, 3, 4
        String net = "fields 9;home 7 8;way 4 5;way 4 0;way 4 2;way 5 1;way 5 3;";
        int[][][] side0 = {men(4, 5, 0), men(4, 5, 0, 1, -4, 1), men(4, 5, 0, 1, -4, 1, 3, -4, 3)};
        int[][][] side1 = {men(5, 4, 0), men(5, 4, 0, 0, -4, 0), men(5, 4, 0, 0, -4, 0, 2, -4, 2)};
        for (int law = 0; law < 3; law++) {
            for (int a = 0; a < 3; a++) {
                for (int b = 0; b < 3; b++) {
                    boolean equal = a == b;
                    side0[a][0][2] = law == 0 ? 5 : law == 2 ? GONE : equal ? 4 : a > b ? 5 : GONE;
                    side1[b][0][2] = law == 0 ? 4 : law == 2 ? GONE : equal ? 5 : b > a ? 4 : GONE;
                    Scene.play(DUE, net, "strength " + (1 + a) + " against " + (1 + b), law, side0[a], side1[b]);
                }
            }
        }
    }

    private static void placesChangedOfOneSide() {
        DUE.sentence("pairs of MEN of two SIDES who would change places");
        inAllLaws(STAR, "two of side 0 pass", men(1, 2, 2, 2, 1, 1), men(6, -1, 6));
        inAllLaws(STAR, "two of side 1 pass", men(6, -1, 6), men(1, 2, 2, 2, 1, 1));
        inAllLaws(STAR, "three in a ring do not change places", men(0, 1, 1), men(1, 2, 2, 2, 0, 0));
        inAllLaws(STAR, "one goes where the other stays", men(1, 2, 1), men(2, -1, 2));
        inAllLaws(STAR, "one goes where the other leaves, not to its field", men(1, 2, 2), men(2, 5, 5));
    }

    private static void behindPlacesChanged() {
        DUE.sentence("first pairs ... Then ... all FIELDS looked at as it is then");
        // with law 2 both fall, so a third comes to a field that is free
        Scene.play(DUE, STAR, "a third comes", 0, men(1, 2, 1, 4, 1, 4), men(2, 1, 2, 6, -1, 6));
        Scene.play(DUE, STAR, "a third comes", 1, men(1, 2, 1, 4, 1, 4), men(2, 1, 2, 6, -1, 6));
        Scene.play(DUE, STAR, "a third comes", 2, men(1, 2, GONE, 4, 1, 1), men(2, 1, GONE, 6, -1, 6));
        // by law 1 the weaker is thrown back to its field, and the stronger comes there
        Scene.play(DUE, STAR, "one is stronger", 1, men(1, 2, 2, 0, -4, 0, 4, -1, 4), men(2, 1, GONE, 6, -1, 6));
        Scene.play(DUE, STAR, "two alike, a third with help on one of them", 1, men(1, 2, GONE, 6, -1, 6), men(2, 1, 2, 4, 1, 1, 0, -5, 0));
        Scene.play(DUE, STAR, "one is thrown back by the third, then the other by it", 0, men(1, 2, GONE, 6, -1, 6), men(2, 1, 2, 4, 1, 1, 0, -5, 0));
    }

    // ---- how a game ends

    private static void won(String name, int want, int[][] men0, int[][] men1) {
        DUE.is(name, Scene.play(DUE, LINE, name, 0, men0, men1), want);
    }

    private static void wonAtTheEnd() {
        DUE.sentence("WON: at its end a MAN of the SIDE stands on the other's home; both at once: DRAWN");
        won("side 0 comes", 1, men(7, 8, 8), men(2, -1, 2));
        won("side 1 comes", 2, men(2, -1, 2), men(1, 0, 0));
        won("both come", 3, men(7, 8, 8), men(1, 0, 0));
        won("side 0 is thrown back from it", 0, men(7, 8, 7), men(8, -1, 8));
        won("side 1 is thrown back from it", 0, men(0, -1, 0), men(1, 0, 1));
        won("both are thrown back", 0, men(7, 8, 7, 0, -1, 0), men(1, 0, 1, 8, -1, 8));
        won("one comes, one is thrown back", 1, men(7, 8, 8, 0, -1, 0), men(1, 0, 1));
        won("its second man comes", 1, men(2, -1, 2, 7, 8, 8), men(4, -1, 4));
        won("its third man comes", 2, men(5, -1, 5), men(2, -1, 2, 3, -1, 3, 1, 0, 0));
        won("one stands beside it", 0, men(6, 7, 7), men(2, 1, 1));
        won("it leaves, the other comes: they pass", 1, men(7, 8, 8), men(8, 7, 7));
    }

    private static void ownHome() {
        DUE.sentence("the other's home: not its own");
        won("both come home to their own", 0, men(1, 0, 0), men(7, 8, 8));
        won("both stand on their own", 0, men(0, -1, 0), men(8, -1, 8));
        BothWrite x = Due.withNet("fields 9;home 4 0;way 0 1;way 4 5;man 0 5;man 1 1;");
        DUE.is("told homes: both come to their own", x.tried(1, 1, 0), 0);
        x = Due.withNet("fields 9;home 4 0;way 0 1;way 4 5;man 0 1;man 1 5;");
        DUE.is("told homes: both come to the other's", x.tried(1, 1, 0), 3);
        DUE.is("told homes: side 0 comes", x.tried(1, 0, 0), 1);
        DUE.is("told homes: side 1 comes", x.tried(0, 1, 0), 2);
    }

    private static void lastMan() {
        DUE.sentence("or the other has no MEN; both at once: DRAWN");
        int[][] fells = men(1, 0, 0, 2, -4, 2);
        DUE.is("side 1's last man falls", Scene.play(DUE, STAR, "side 1's last", 0, fells, men(0, -1, GONE)), 1);
        DUE.is("side 1's last but one falls", Scene.play(DUE, STAR, "side 1's last but one", 0, fells, men(0, -1, GONE, 6, -1, 6)), 0);
        DUE.is("side 0's last man falls", Scene.play(DUE, STAR, "side 0's last", 0, men(0, -1, GONE), men(1, 0, 0, 2, -4, 2)), 2);
        DUE.is("both last men fall", Scene.play(DUE, STAR, "both last", 2, men(1, 2, GONE), men(2, 1, GONE)), 3);
        DUE.is("both fall, side 0 has one more", Scene.play(DUE, STAR, "one more of 0", 2, men(1, 2, GONE, 6, -1, 6), men(2, 1, GONE)), 1);
        DUE.is("both fall, side 1 has one more", Scene.play(DUE, STAR, "one more of 1", 2, men(1, 2, GONE), men(2, 1, GONE, 6, -1, 6)), 2);
        DUE.is("both fall, both have one more", Scene.play(DUE, STAR, "one more of both", 2, men(1, 2, GONE, 4, -1, 4), men(2, 1, GONE, 6, -1, 6)), 0);
        // side 1 comes to side 0's home, and falls elsewhere to its last
        String homes = "fields 9;home 3 8;way 0 1;way 0 2;way 1 2;way 3 4;";
        DUE.is("home, and one of it falls", Scene.play(DUE, homes, "home and a fall", 0, men(1, 0, 0, 2, -4, 2), men(0, -1, GONE, 4, 3, 3)), 2);
    }

    private static void overFromTheBeginning() {
        DUE.sentence("A game goes on till then");
        String[] nets = {STAR + "man 0 8;man 1 1;", STAR + "man 0 1;man 1 7;", STAR + "man 0 8;man 1 7;",
            STAR + "man 0 1;", STAR + "man 1 1;", STAR};
        int[] how = {1, 2, 3, 1, 2, 3};
        for (int k = 0; k < nets.length; k++) {
            BothWrite x = Due.withNet(nets[k]);
            DUE.is("told(10) of " + nets[k], x.told(10), how[k]);
            DUE.is("move(0, 0) on " + nets[k], x.move(0, 0), NOT);
            DUE.is("drift(1) on " + nets[k], x.drift(1), NOT);
            DUE.is("begin() on " + nets[k], x.begin(), 0);
            DUE.is("told(10) of " + nets[k], x.told(10), how[k]);
        }
        BothWrite x = Due.withNet(LINE + "man 0 7;man 1 2;");
        DUE.is("move to the end", x.move(2, 0), 1);
        DUE.is("move behind it", x.move(0, 0), NOT);
        x.begin();
        DUE.is("move from the beginning", x.move(0, 0), 0);
    }

    // ---- moves

    private static void sixtyMoves() {
        DUE.sentence("THE GAME ... pairs of SLIPS (60 at most)");
        BothWrite x = Due.withNet(LINE + "man 0 4;man 1 6;");
        for (int k = 0; k < 60; k++) {
            DUE.is("move " + k, x.move(k % 2 == 0 ? 1 : 2, k % 3 == 0 ? -1 : 0), 0);
            DUE.is("told(5)", x.told(5), k + 1);
        }
        DUE.is("a 61st", x.move(0, 0), FULL);
        for (int k = 0; k < 60; k++) {
            DUE.is("game(" + k + ", 0)", x.game(k, 0), k % 2 == 0 ? 1 : 2);
            DUE.is("game(" + k + ", 1)", x.game(k, 1), 0);
        }
        DUE.is("game(60, 0)", x.game(60, 0), GONE);
        DUE.is("begin()", x.begin(), 60);
        DUE.is("a first again", x.move(1, 0), 0);
        DUE.is("told(5)", x.told(5), 1);
        DUE.is("game(1, 0)", x.game(1, 0), GONE);
    }

    private static void driftTillOver() {
        DUE.sentence("drift: till it is over");
        // one step to either home: of three slips one each ends it
        for (int seed = 0; seed < 40; seed++) {
            BothWrite x = Due.withNet("fields 4;way 0 1;way 1 2;way 2 3;man 0 2;man 1 1;");
            BothWrite y = Due.withNet("fields 4;way 0 1;way 1 2;way 2 3;man 0 2;man 1 1;");
            x.seed(seed * 1000);
            y.seed(seed * 1000);
            int how = x.drift(60);
            int moves = 0;
            for (int k = 0; k < 60 && y.told(10) == 0; k++) {
                y.drift(1);
                moves++;
            }
            DUE.is("drift(60) of seed " + seed, how, y.told(10));
            DUE.is("told(5) of seed " + seed, x.told(5), moves);
            DUE.is("drift(1) behind it", x.drift(1), how == 0 ? FULL : NOT);
            DUE.is("seed behind it", x.seed(0), y.seed(0));
        }
    }

    /** The 60th move ends it or does not: only where more are to go, and it goes on, is it full. */
    private static void driftToTheLastMove() {
        DUE.sentence("drift: how it is; FULL: 60 by then");
        int ended = 0;
        int full = 0;
        for (int seed = 0; seed < 30; seed++) {
            BothWrite[] x = new BothWrite[2];
            for (int k = 0; k < 2; k++) {
                x[k] = Due.withNet("fields 4;way 0 1;way 1 2;way 2 3;man 0 2;man 1 1;");
                for (int m = 0; m < 59; m++) {
                    x[k].move(0, 0);
                }
                x[k].seed(seed * 98765);
            }
            int how = x[0].drift(1);
            DUE.is("the 60th of seed " + seed, how, x[0].told(10));
            DUE.is("the 60th, one more to go, of seed " + seed, x[1].drift(2), how == 0 ? FULL : how);
            DUE.is("told(5)", x[1].told(5), 60);
            DUE.is("seed behind it", x[1].seed(0), x[0].seed(0));
            ended += how == 0 ? 0 : 1;
            full += how == 0 ? 1 : 0;
        }
        DUE.is("some of them ended, some were full", ended > 0 && full > 0 ? 1 : 0, 1);
    }

    private static long next(long seed) {
        return (seed * 1103515245L + 12345L) % 2147483648L;
    }

    private static void driftDraws() {
        DUE.sentence("BY DRAWS (side 0 draws first); the DRAW of n is it / 65536, left over by n");
        for (int first : new int[] {0, 1, 65535, 65536, 12345, 1 << 30, 2147418112, 2147483646, 2147483647}) {
            BothWrite x = Due.withNet(STAR + "man 0 1;man 0 5;man 1 3;man 1 6;man 1 4;");
            x.seed(first);
            long seed = first;
            for (int k = 0; k < 5; k++) {
                int many0 = x.slip(0, -1);
                int many1 = x.slip(1, -1);
                long draw0 = next(seed);
                long draw1 = next(draw0);
                int a = x.slip(0, (int) (draw0 / 65536 % many0));
                int b = x.slip(1, (int) (draw1 / 65536 % many1));
                DUE.is("drift(1) from " + seed, x.drift(1), 0);
                DUE.is("game(" + k + ", 0) from " + seed, x.game(k, 0), a);
                DUE.is("game(" + k + ", 1) from " + seed, x.game(k, 1), b);
                seed = draw1;
            }
            DUE.is("seed behind five moves from " + first, x.seed(0), seed);
        }
        // by hand: 0 becomes 12345, a draw of 0; that becomes 1406932606, and / 65536 it is 21468
        BothWrite x = Due.withNet(STAR + "man 0 1;man 1 2;");
        DUE.is("seed 0 at first", x.seed(0), 0);
        DUE.is("drift(1)", x.drift(1), 0);
        DUE.is("game(0, 0): 0 of four", x.game(0, 0), 0);
        DUE.is("game(0, 1): 21468 left over by four", x.game(0, 1), 0);
        DUE.is("drift(1)", x.drift(1), 0);
        // 1406932606 becomes 654583775, / 65536 it is 9988; that becomes 1449466924, and it is 22117
        DUE.is("game(1, 0): 9988 left over by four", x.game(1, 0), 0);
        DUE.is("game(1, 1): 22117 left over by four", x.game(1, 1), 1);
        DUE.is("seed", x.seed(0), 1449466924);
    }

    private static void beginsAgain() {
        DUE.sentence("begin: THE GAME from the beginning again: how many MOVES it had");
        BothWrite x = Due.withNet(LINE + "man 0 7;man 1 2;");
        DUE.is("begin() of none", x.begin(), 0);
        x.move(1, 0);
        DUE.is("begin() of one", x.begin(), 1);
        DUE.is("begin() again", x.begin(), 0);
        DUE.is("man(0, 0)", x.man(0, 0), 7);
        x.move(2, 0);
        DUE.is("told(10), over", x.told(10), 1);
        DUE.is("begin() when it is over", x.begin(), 1);
        DUE.is("told(10), it goes on", x.told(10), 0);
        x.drift(60);
        int had = x.told(5);
        DUE.is("begin() of a drift", x.begin(), had);
        DUE.is("told(5)", x.told(5), 0);
    }

    private static void triesChangeNothing() {
        DUE.sentence("tried: Both SLIPS tried");
        BothWrite x = Due.withNet(STAR + "man 0 1;man 0 2;man 1 0;man 1 6;");
        BothWrite y = Due.withNet(STAR + "man 0 1;man 0 2;man 1 0;man 1 6;");
        x.seed(5);
        y.seed(5);
        for (int i = 0; i < x.slip(0, -1); i++) {
            x.tried(x.slip(0, i), i % 2 - 1, i % 3);
            x.pays(x.slip(0, i), i % 2 - 1);
        }
        x.tried(1 + 6 * HELP1, 0, 4);
        Alike.are(DUE, "behind tries", x, y);
    }
}
