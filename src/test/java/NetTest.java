/** Promises 1 to 8: a new object, feed, net, fault, told, ways, man, law. */
public final class NetTest {
    private static final Due DUE = new Due("NetTest");
    private static final int UNKNOWN = BothWrite.UNKNOWN, OUTSIDE = BothWrite.OUTSIDE;

    public static void main(String[] args) {
        newObject();
        feeding();
        goodNets();
        words();
        numbers();
        toldTwice();
        misfits();
        firstFault();
        textAfterText();
        faultLeavesAll();
        netLeavesLawAndSeed();
        homes();
        waysAndMen();
        laws();
        DUE.end();
    }

    private static void newObject() {
        BothWrite x = new BothWrite();
        int[] told = {0, 0, 0, -1, -1, 0, 0, 0, 0, 0, 3};
        for (int what = 0; what < told.length; what++) {
            DUE.is("told(" + what + ") of a new object", x.told(what), told[what]);
        }
        DUE.is("told(11)", x.told(11), OUTSIDE);
        DUE.is("told(-1)", x.told(-1), OUTSIDE);
        DUE.is("fault()", x.fault(), -1);
        DUE.is("ways(0)", x.ways(0), UNKNOWN);
        DUE.is("man(0, 0)", x.man(0, 0), UNKNOWN);
        DUE.is("slip(1, -1)", x.slip(1, -1), 1);
        DUE.is("slip(1, 0)", x.slip(1, 0), 0);
        DUE.is("tried(0, 0, 0)", x.tried(0, 0, 0), BothWrite.NOT);
        DUE.is("tried(0, 0, 1)", x.tried(0, 0, 1), UNKNOWN);
        DUE.is("seed(0)", x.seed(0), 0);
        DUE.is("goBack(0)", x.goBack(0), BothWrite.NOT);
        DUE.is("net() of no text", x.net(), 0);
        DUE.is("fault() of no text", x.fault(), -1);
    }

    private static void feeding() {
        BothWrite x = new BothWrite();
        DUE.is("feed(0, 0)", x.feed(0, 0), OUTSIDE);
        DUE.is("feed(9, 0)", x.feed(9, 0), OUTSIDE);
        DUE.is("feed(-1, 0)", x.feed(-1, 0), OUTSIDE);
        DUE.is("told(8) behind what was refused", x.told(8), 0);
        // 'fields 2;' by one, two, three and again three bytes; what stands above them is left out
        DUE.is("feed f", x.feed(1, 0x1122334455667766L), 1);
        DUE.is("feed ie", x.feed(2, 0xffffffffffff6965L), 3);
        DUE.is("feed lds", x.feed(3, 0x6c6473L), 6);
        DUE.is("feed ' 2;'", x.feed(3, -1L << 24 | 0x20323bL), 9);
        DUE.is("told(8)", x.told(8), 9);
        DUE.is("net()", x.net(), 0);
        DUE.is("told(0)", x.told(0), 2);
        DUE.is("told(8) behind net()", x.told(8), 0);
        for (int k = 1; k <= 49; k++) {
            DUE.is("feed of eight blanks", x.feed(8, 0x2020202020202020L), 8 * k);
        }
        DUE.is("feed to 396", x.feed(4, 0x20202020L), 396);
        DUE.is("feed(5) to 401", x.feed(5, 0), BothWrite.FULL);
        DUE.is("feed(9) of a full text", x.feed(9, 0), OUTSIDE);
        DUE.is("told(8)", x.told(8), 396);
        DUE.is("feed to 400", x.feed(4, 0x20202020L), 400);
        DUE.is("feed(1) to 401", x.feed(1, 32), BothWrite.FULL);
        DUE.is("net() of blanks alone", x.net(), 0);
        DUE.is("told(0) of blanks alone", x.told(0), 0);
        DUE.is("told(3) of blanks alone", x.told(3), -1);
        DUE.is("told(10) of blanks alone", x.told(10), 3);
    }

    private static void good(String text, int men, int fields) {
        BothWrite x = new BothWrite();
        Due.feed(x, text);
        DUE.is("net() of '" + text + "'", x.net(), men);
        DUE.is("fault() of '" + text + "'", x.fault(), -1);
        DUE.is("told(0) of '" + text + "'", x.told(0), fields);
    }

    private static void bad(String text, int number, int place) {
        BothWrite x = new BothWrite();
        Due.feed(x, text);
        DUE.is("net() of '" + text + "'", x.net(), -10 - number);
        DUE.is("fault() of '" + text + "'", x.fault(), place);
        DUE.is("told(8) behind '" + text + "'", x.told(8), 0);
        DUE.is("told(0) behind '" + text + "'", x.told(0), 0);
    }

    private static void goodNets() {
        good("", 0, 0);
        good("   ", 0, 0);
        good("fields 2;", 0, 2);
        good("fields9;", 0, 9);
        good("  fields  002 ; ", 0, 2);
        good("fields 3;way0 1;way 01 002;man1 0;man 0 2;home 2 0;", 2, 3);
        good("fields 4;way 0 1;way 0 2;way 0 3;way 1 2;way 1 3;way 2 3;", 0, 4);
        good("fields 6;man 0 0;man 0 1;man 1 4;", 3, 6);
        good("fields 6;man 1 0;man 1 1;man 0 4;man 1 5;", 4, 6);
        good("fields 6;man 0 0;man 0 1;man 0 2;man 1 3;man 1 4;man 1 5;", 6, 6);
    }

    private static void words() {
        bad("x", 1, 0);
        bad(" ;", 1, 1);
        bad("7;", 1, 0);
        bad("77777;", 1, 0);
        bad("Fields 2;", 1, 0);
        bad("field 2;", 1, 0);
        bad("xields 2;", 1, 0);
        bad("fieldz 2;", 1, 0);
        bad("fieldss 2;", 1, 0);
        bad("fie lds 2;", 1, 0);
        bad("way 0 1;", 1, 0);
        bad("home 0 1;", 1, 0);
        bad("  man 0 1;", 1, 2);
        bad("fields", 1, 6);
        bad("fields  ", 1, 8);
        bad("fields 2", 1, 8);
        bad("fields 2 ", 1, 9);
        bad("fields ;", 1, 7);
        bad("fields two;", 1, 7);
        bad("fields 2 2;", 1, 9);
        bad("fields 2 2222;", 1, 9);
        bad("fields 2x;", 1, 8);
        bad("fields\t2;", 1, 6);
        bad("fields 2;;", 1, 9);
        bad("fields 2;5;", 1, 9);
        bad("fields 2;ways 0 1;", 1, 9);
        bad("fields 2;wayz 0 1;", 1, 9);
        bad("fields 2;away 0 1;", 1, 9);
        bad("fields 2;wway 0 1;", 1, 9);
        bad("fields 2;way`0 1;", 1, 12);
        bad("fields 2;way{0 1;", 1, 12);
        bad("fields 2;way/0 1;", 1, 12);
        bad("fields 2;way:0 1;", 1, 12);
        bad("fields 2;way 0;", 1, 14);
        bad("fields 2;way 01;", 1, 15);
        bad("fields 2;way 0 1", 1, 16);
        bad("fields 2;way 0 1 1;", 1, 17);
        bad("fields 2;way 0 1way 0 1;", 1, 16);
        bad("fields 2;way -1 1;", 1, 13);
        bad("fields 2;man;", 1, 12);
        bad("fields 2;home 0 \u00e9;", 1, 16);
    }

    private static void numbers() {
        bad("fields 1;", 2, 7);
        bad("fields 0;", 2, 7);
        bad("fields 10;", 2, 7);
        bad("fields 0002;", 2, 7);
        bad("fields 99999999999;", 2, 7);
        bad("fields 3;way 3 0;", 2, 13);
        bad("fields 3;way 0 3;", 2, 15);
        bad("fields 3;way 0 0001;", 2, 15);
        bad("fields 3;home 3 0;", 2, 14);
        bad("fields 3;home 0 3;", 2, 16);
        bad("fields 3;home 0 999;", 2, 16);
        bad("fields 3;man 2 0;", 2, 13);
        bad("fields 3;man 1 3;", 2, 15);
    }

    private static void toldTwice() {
        bad("fields 3;fields 3;", 3, 9);
        bad("fields 3;way 0 1; fields", 3, 18);
        bad("fields 3;home 0 1;home 1 0;", 3, 18);
        bad("fields 3;home 0 1;home 1000", 3, 18);
    }

    private static void misfits() {
        bad("fields 3;way 1 1;", 4, 15);
        bad("fields 3;way 0 1;way 0 1;", 4, 23);
        bad("fields 3;way 0 1;way  1  00;", 4, 25);
        bad("fields 5;way 0 1;way 0 2;way 0 3;way 0 4;", 4, 39);
        bad("fields 5;way 0 1;way 0 2;way 0 3;way 4 0;", 4, 39);
        bad("fields 3;home 2 2;", 4, 16);
        bad("fields 3;man 0 1;man 0 1;", 4, 23);
        bad("fields 3;man 0 1;man 1 1;", 4, 23);
        bad("fields 5;man 1 1;man 1 0;man 1 2;man 1 3;", 4, 39);
    }

    private static void firstFault() {
        bad("fields 3;way 3 1000 x", 2, 13);
        bad("fields 3;way 1 1 x", 4, 15);
        bad("fields 3;home 1 1;fields 3;", 4, 16);
        bad("fields 3;home 0 1 home 0 1;", 1, 18);
    }

    /** Nothing of a text is left for the next one, be it shorter. */
    private static void textAfterText() {
        BothWrite x = new BothWrite();
        oneMore(x, "fields 3;home 2 1;way 0 1", -11, 25);
        oneMore(x, "fields 2", -11, 8);
        oneMore(x, "fields 3;home 1 2;", 0, -1);
        oneMore(x, "fields 33;", -12, 7);
        oneMore(x, "fields 3", -11, 8);
        oneMore(x, "fields ", -11, 7);
        oneMore(x, "fields", -11, 6);
        oneMore(x, "field", -11, 0);
        oneMore(x, "fields 3;home 2 0;man 0 1;", 1, -1);
        oneMore(x, "fields 3;home 0 2;man 1 1;man 0 0;", 2, -1);
        DUE.is("told(3)", x.told(3), 0);
        oneMore(x, "", 0, -1);
        DUE.is("told(0)", x.told(0), 0);
    }

    private static void oneMore(BothWrite x, String text, int net, int fault) {
        Due.feed(x, text);
        DUE.is("net() of '" + text + "' behind another", x.net(), net);
        DUE.is("fault() of '" + text + "' behind another", x.fault(), fault);
    }

    private static void faultLeavesAll() {
        BothWrite x = Due.withNet("fields 4;way 0 1;way 1 2;way 2 3;man 0 0;man 1 3;");
        x.law(1);
        x.seed(5);
        x.log(0, 0);
        x.promise(0, 0, 1, 0);
        x.move(1, 0);
        x.keep(1);
        x.stand(0, 0, 2);
        Due.feed(x, "fields 3;man 0 3;");
        DUE.is("net()", x.net(), -12);
        DUE.is("fault()", x.fault(), 15);
        int[] told = {4, 1, 1, 0, 3, 1, 1, 1, 0, 1, 0};
        for (int what = 0; what < told.length; what++) {
            DUE.is("told(" + what + ") behind a fault", x.told(what), told[what]);
        }
        DUE.is("man(0, 0)", x.man(0, 0), 1);
        DUE.is("stand(0, 0, 2)", x.stand(0, 0, 2), 2);
        DUE.is("goBack(1)", x.goBack(1), 1);
        DUE.is("seed(5)", x.seed(5), 5);
        DUE.is("ways(1)", x.ways(1), 5);
    }

    private static void netLeavesLawAndSeed() {
        BothWrite x = Due.withNet("fields 4;way 0 1;way 1 2;way 2 3;man 0 0;man 0 1;man 1 3;");
        x.law(2);
        x.seed(77);
        x.log(0, 0);
        x.promise(0, 0, 1, 0);
        x.move(0, 0);
        x.keep(0);
        x.keep(1);
        x.stand(0, 0, 2);
        Due.feed(x, "fields 3;way 0 1;man 0 1;man 1 2;");
        DUE.is("net()", x.net(), 2);
        int[] told = {3, 1, 1, 0, 2, 0, 0, 0, 0, 2, 0};
        for (int what = 0; what < told.length; what++) {
            DUE.is("told(" + what + ") behind a new net", x.told(what), told[what]);
        }
        DUE.is("man(0, 1)", x.man(0, 1), UNKNOWN);
        DUE.is("ways(2)", x.ways(2), 0);
        DUE.is("goBack(0)", x.goBack(0), BothWrite.NOT);
        DUE.is("goBack(1)", x.goBack(1), BothWrite.NOT);
        DUE.is("seed(1)", x.seed(1), 77);
        DUE.is("stand(0, 0, 1)", x.stand(0, 0, 1), 1);
        DUE.is("net() of no text", x.net(), 0);
        DUE.is("told(0)", x.told(0), 0);
        DUE.is("told(3)", x.told(3), -1);
        DUE.is("told(4)", x.told(4), -1);
        DUE.is("ways(0)", x.ways(0), UNKNOWN);
    }

    private static void homes() {
        BothWrite x = Due.withNet("fields 5;man 0 2;man 1 3;");
        DUE.is("told(3), untold", x.told(3), 0);
        DUE.is("told(4), untold", x.told(4), 4);
        x = Due.withNet("fields 5;home 3 1;man 0 1;man 1 2;");
        DUE.is("told(3)", x.told(3), 3);
        DUE.is("told(4)", x.told(4), 1);
        DUE.is("told(10): side 0 stands on the other's home", x.told(10), 1);
        x = Due.withNet("fields 5;man 0 4;man 1 0;");
        DUE.is("told(10): both stand on the other's home", x.told(10), 3);
        x = Due.withNet("fields 5;man 0 0;man 1 4;");
        DUE.is("told(10): each stands on its own home", x.told(10), 0);
        x = Due.withNet("fields 5;man 1 4;");
        DUE.is("told(10): side 0 has no men", x.told(10), 2);
        x = Due.withNet("fields 5;man 0 0;");
        DUE.is("told(10): side 1 has no men", x.told(10), 1);
    }

    private static void waysAndMen() {
        BothWrite x = Due.withNet("fields 9;way 8 0;way 4 0;way 0 2;way 4 8;man 1 5;man 0 7;man 1 2;");
        DUE.is("ways(0)", x.ways(0), 1 << 8 | 1 << 4 | 1 << 2);
        DUE.is("ways(2)", x.ways(2), 1);
        DUE.is("ways(4)", x.ways(4), 1 | 1 << 8);
        DUE.is("ways(8)", x.ways(8), 1 | 1 << 4);
        DUE.is("ways(7)", x.ways(7), 0);
        DUE.is("ways(9)", x.ways(9), UNKNOWN);
        DUE.is("ways(-1)", x.ways(-1), UNKNOWN);
        DUE.is("man(0, 0)", x.man(0, 0), 7);
        DUE.is("man(1, 0)", x.man(1, 0), 5);
        DUE.is("man(1, 1)", x.man(1, 1), 2);
        DUE.is("man(0, 1)", x.man(0, 1), UNKNOWN);
        DUE.is("man(0, 3)", x.man(0, 3), UNKNOWN);
        DUE.is("man(1, -1)", x.man(1, -1), UNKNOWN);
        DUE.is("man(2, 0)", x.man(2, 0), UNKNOWN);
        DUE.is("man(-1, 0)", x.man(-1, 0), UNKNOWN);
        DUE.is("man(0, least)", x.man(0, Integer.MIN_VALUE), UNKNOWN);
        DUE.is("man(most, most)", x.man(Integer.MAX_VALUE, Integer.MAX_VALUE), UNKNOWN);
        DUE.is("told(1)", x.told(1), 1);
        DUE.is("told(2)", x.told(2), 2);
        // the ways of 0 lead to 2, 4, 8 in this order, whatever the order in which they were told
        x = Due.withNet("fields 9;way 8 0;way 4 0;way 0 2;man 0 0;man 1 5;home 1 6;");
        DUE.is("tried(1, 0, 1)", x.tried(1, 0, 1), 2);
        DUE.is("tried(2, 0, 1)", x.tried(2, 0, 1), 4);
        DUE.is("tried(3, 0, 1)", x.tried(3, 0, 1), 8);
    }

    private static void laws() {
        BothWrite x = new BothWrite();
        DUE.is("law(3)", x.law(3), OUTSIDE);
        DUE.is("law(-1)", x.law(-1), OUTSIDE);
        DUE.is("law(2)", x.law(2), 0);
        DUE.is("law(2) again", x.law(2), 2);
        DUE.is("law(1)", x.law(1), 2);
        DUE.is("law(3)", x.law(3), OUTSIDE);
        DUE.is("told(9)", x.told(9), 1);
        DUE.is("law(0)", x.law(0), 1);
        DUE.is("told(9)", x.told(9), 0);
    }
}
