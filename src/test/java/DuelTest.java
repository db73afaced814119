/** Promises 19 and 20: duel, lot. */
public final class DuelTest {
    private static final Due DUE = new Due("DuelTest");
    private static final int UNKNOWN = BothWrite.UNKNOWN, OUTSIDE = BothWrite.OUTSIDE, NOT = BothWrite.NOT;
    private static final int ALL = 1000000;

    public static void main(String[] args) {
        endsAndNone();
        races();
        longRaces();
        firstPairOfSets();
        refusals();
        netAndLawAreOfNow();
        menDoNotMatter();
        DUE.end();
    }

    /** A line of so many fields, the homes at its ends. */
    private static BothWrite line(int fields) {
        StringBuilder text = new StringBuilder("fields " + fields + ";");
        for (int f = 1; f < fields; f++) {
            text.append("way ").append(f - 1).append(' ').append(f).append(';');
        }
        return Due.withNet(text.toString());
    }

    private static void lots(String name, BothWrite x, int a, int b, int n, int order0, int order1) {
        for (int order = 0; order < 4; order++) {
            DUE.is(name + ": lot of side 0, order " + order, x.lot(a, b, n, 0, order), order == order0 ? ALL : 0);
            DUE.is(name + ": lot of side 1, order " + order, x.lot(a, b, n, 1, order), order == order1 ? ALL : 0);
        }
    }

    private static void endsAndNone() {
        BothWrite x = line(5);
        for (int n = 0; n <= 12; n += 6) {
            DUE.is("side 0 stands on the other's home", x.duel(4, 2, n), 1000);
            DUE.is("side 1 stands on the other's home", x.duel(2, 0, n), 0);
            DUE.is("both stand on the other's home", x.duel(4, 0, n), 500);
        }
        DUE.is("nobody has a move", x.duel(3, 2, 0), 500);
        DUE.is("nobody has a move", x.duel(2, 1, 0), 500);
        DUE.is("each on its own home", x.duel(0, 4, 12), 500);
    }

    private static void races() {
        BothWrite x = line(5);
        DUE.is("one step from home", x.duel(3, 2, 1), 1000);
        // whatever side 1 writes is worth 1000: to stay is the first
        lots("one step from home", x, 3, 2, 1, 2, 0);
        DUE.is("the other is one step from home", x.duel(2, 1, 1), 0);
        lots("the other is one step from home", x, 2, 1, 1, 0, 1);
        DUE.is("both are one step from home", x.duel(3, 1, 1), 500);
        lots("both are one step from home", x, 3, 1, 1, 2, 1);
        DUE.is("one in the other's way", x.duel(1, 2, 12), 500);
        lots("one in the other's way", x, 1, 2, 1, 0, 0);
    }

    /** The other needs one step more; it is won with as many moves as the way is long, not with one less. */
    private static void longRaces() {
        BothWrite x = line(9);
        DUE.is("three steps in two moves", x.duel(5, 4, 2), 500);
        DUE.is("three steps in three moves", x.duel(5, 4, 3), 1000);
        DUE.is("three steps in twelve moves", x.duel(5, 4, 12), 1000);
        DUE.is("two steps in one move", x.duel(6, 5, 1), 500);
        DUE.is("two steps in two moves", x.duel(6, 5, 2), 1000);
        DUE.is("side 1, three steps in two moves", x.duel(4, 3, 2), 500);
        DUE.is("side 1, three steps in three moves", x.duel(4, 3, 3), 0);
    }

    /** Of pairs that stand the first is taken: to stay, where a later move wins as well. */
    private static void firstPairOfSets() {
        BothWrite x = Due.withNet("fields 4;way 0 1;way 1 2;way 2 3;way 0 3;home 0 1;");
        lots("side 1 bars field 1", x, 0, 2, 1, 0, 1);
        DUE.is("side 1 bars field 1", x.duel(0, 2, 1), 500);
        x = Due.withNet("fields 4;way 0 1;way 1 2;way 2 3;way 0 3;home 3 1;");
        lots("both come to 1", x, 0, 2, 1, 1, 1);
        DUE.is("both come to 1", x.duel(0, 2, 1), 500);
        x = Due.withNet("fields 4;man 0 1;man 1 2;");
        lots("men without ways", x, 1, 2, 7, 0, 0);
        lots("men without ways", x, 1, 2, 12, 0, 0);
        DUE.is("men without ways", x.duel(1, 2, 7), 500);
        x = Due.withNet("fields 5;way 1 4;way 0 2;man 0 1;man 1 2;");
        lots("two who race on ways apart", x, 1, 2, 3, 1, 1);
        DUE.is("two who race on ways apart", x.duel(1, 2, 3), 500);
        lots("one who races alone, one move", x, 1, 3, 1, 1, 0);
        lots("one who races alone", x, 1, 3, 3, 0, 0);
        DUE.is("one who races alone", x.duel(1, 3, 3), 1000);
        lots("the other who races alone, one move", x, 3, 2, 1, 0, 1);
        lots("the other who races alone", x, 3, 2, 3, 0, 0);
        DUE.is("the other who races alone", x.duel(3, 2, 3), 0);
    }

    private static void refusals() {
        BothWrite x = line(5);
        DUE.is("duel(2, 2, 1)", x.duel(2, 2, 1), UNKNOWN);
        DUE.is("duel(5, 2, 1)", x.duel(5, 2, 1), UNKNOWN);
        DUE.is("duel(2, 5, 1)", x.duel(2, 5, 1), UNKNOWN);
        DUE.is("duel(-1, 2, 1)", x.duel(-1, 2, 1), UNKNOWN);
        DUE.is("duel(2, -1, 99)", x.duel(2, -1, 99), UNKNOWN);
        DUE.is("duel(2, 3, 13)", x.duel(2, 3, 13), OUTSIDE);
        DUE.is("duel(2, 3, -1)", x.duel(2, 3, -1), OUTSIDE);
        DUE.is("lot(2, 2, 1, 0, 0)", x.lot(2, 2, 1, 0, 0), UNKNOWN);
        DUE.is("lot(5, 2, 1, 0, 0)", x.lot(5, 2, 1, 0, 0), UNKNOWN);
        DUE.is("lot(2, 5, 1, 0, 0)", x.lot(2, 5, 1, 0, 0), UNKNOWN);
        DUE.is("lot(2, 3, 1, 2, 0)", x.lot(2, 3, 1, 2, 0), UNKNOWN);
        DUE.is("lot(2, 3, 1, -1, 9)", x.lot(2, 3, 1, -1, 9), UNKNOWN);
        DUE.is("lot(2, 3, 0, 0, 0)", x.lot(2, 3, 0, 0, 0), OUTSIDE);
        DUE.is("lot(2, 3, 13, 0, 0)", x.lot(2, 3, 13, 0, 0), OUTSIDE);
        DUE.is("lot(2, 3, 1, 0, 4)", x.lot(2, 3, 1, 0, 4), OUTSIDE);
        DUE.is("lot(2, 3, 1, 0, -1)", x.lot(2, 3, 1, 0, -1), OUTSIDE);
        DUE.is("lot(4, 2, 1, 0, 0), won", x.lot(4, 2, 1, 0, 0), NOT);
        DUE.is("lot(2, 0, 1, 0, 3), lost", x.lot(2, 0, 1, 0, 3), NOT);
        DUE.is("lot(4, 0, 1, 1, 0), drawn", x.lot(4, 0, 1, 1, 0), NOT);
        DUE.is("lot(4, 2, 1, 0, 4), won", x.lot(4, 2, 1, 0, 4), OUTSIDE);
        DUE.is("duel without fields", new BothWrite().duel(0, 1, 0), UNKNOWN);
    }

    private static void netAndLawAreOfNow() {
        BothWrite x = line(5);
        DUE.is("duel(3, 2, 9)", x.duel(3, 2, 9), 1000);
        Due.feed(x, "fields 5;");
        x.net();
        DUE.is("duel(3, 2, 9) without ways", x.duel(3, 2, 9), 500);
        Due.feed(x, "fields 5;way 3 4;home 4 0;");
        x.net();
        DUE.is("duel(3, 2, 9) with homes the other way", x.duel(3, 2, 9), 500);
        x = line(5);
        for (int k = 0; k < 9; k++) {
            x.law(k % 3);
            for (int n = 12; n > 0; n--) {
                DUE.is("duel(3, 2, " + n + "), law " + k % 3, x.duel(3, 2, n), 1000);
            }
            DUE.is("duel(3, 2, 0), law " + k % 3, x.duel(3, 2, 0), 500);
        }
        x = Due.withNet("fields 4;way 0 1;way 1 2;way 2 3;");
        for (int law = 0; law < 3; law++) {
            x.law(law);
            DUE.is("duel(2, 1, 3), law " + law, x.duel(2, 1, 3), 500);
            DUE.is("duel(1, 2, 3), law " + law, x.duel(1, 2, 3), 500);
        }
    }

    private static void menDoNotMatter() {
        BothWrite x = Due.withNet("fields 5;way 0 1;way 1 2;way 2 3;way 3 4;man 0 4;man 1 2;man 1 3;man 0 0;");
        DUE.is("told(10)", x.told(10), 1);
        DUE.is("duel(3, 2, 1) when the game is over", x.duel(3, 2, 1), 1000);
        DUE.is("lot(3, 2, 1, 0, 2) when the game is over", x.lot(3, 2, 1, 0, 2), ALL);
        DUE.is("man(1, 0)", x.man(1, 0), 2);
    }
}
