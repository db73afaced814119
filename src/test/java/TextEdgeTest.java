/**
 * The document's first numbered part, sentence by sentence: what the text of a net may be, and where
 * its fault is. In a text with a fault the sign | stands ahead of the byte that has it; it is not fed.
 */
public final class TextEdgeTest {
    private static final Due DUE = new Due("TextEdgeTest");
    private static final int UNKNOWN = BothWrite.UNKNOWN, NONE = BothWrite.NONE;

    public static void main(String[] args) {
        emptyTexts();
        textsOf400();
        howManyFields();
        fieldsFirst();
        fieldsOnce();
        waysOfUnlikeFields();
        waysOnce();
        threeWays();
        homesUnlike();
        homesOnce();
        homesUntold();
        sidesOfMen();
        fieldsThatHaveAMan();
        threeMen();
        oneToThreeFigures();
        words();
        blanks();
        blanksWithin();
        oneBlankBetween();
        cannotStandThere();
        theEnd();
        nothingBehindTheEnd();
        numbersOutOfBounds();
        firstByteOfAll();
        leastOfTheSameByte();
        numberedAsTold();
        waysByRisingFields();
        bytesHighestFirst();
        textIsEmptyThen();
        allElseIsAsItWas();
        whatANetLeaves();
        latestNet();
        DUE.end();
    }

    private static void good(String text, int men) {
        BothWrite x = new BothWrite();
        Due.feed(x, text);
        DUE.is("net() of '" + text + "'", x.net(), men);
        DUE.is("fault() of '" + text + "'", x.fault(), NONE);
    }

    private static void bad(int number, String marked) {
        int place = marked.indexOf('|');
        String text = marked.substring(0, place) + marked.substring(place + 1);
        BothWrite x = new BothWrite();
        Due.feed(x, text);
        DUE.is("net() of '" + text + "'", x.net(), -10 - number);
        DUE.is("fault() of '" + text + "'", x.fault(), place);
        DUE.is("told(0) behind '" + text + "'", x.told(0), 0);
        DUE.is("told(8) behind '" + text + "'", x.told(8), 0);
    }

    private static void emptyTexts() {
        DUE.sentence("An empty text (or one of blanks alone) has no FAULT: no FIELDS");
        good("", 0);
        good(" ", 0);
        good(" ".repeat(400), 0);
        for (String text : new String[] {"", "   "}) {
            BothWrite x = Due.withNet("fields 4;way 0 1;man 0 0;man 1 1;");
            Due.feed(x, text);
            DUE.is("net() of nothing behind a net", x.net(), 0);
            int[] told = {0, 0, 0, NONE, NONE, 0, 0, 0, 0, 0, 3};
            for (int what = 0; what < told.length; what++) {
                DUE.is("told(" + what + ") of nothing behind a net", x.told(what), told[what]);
            }
            DUE.is("ways(0) of nothing behind a net", x.ways(0), UNKNOWN);
            DUE.is("man(0, 0) of nothing behind a net", x.man(0, 0), UNKNOWN);
        }
    }

    private static void textsOf400() {
        DUE.sentence("a text (400 bytes at most)");
        String net = "fields 4;man 0 1;";
        String blanks = " ".repeat(400 - net.length());
        good(net + blanks, 1);
        good(blanks + net, 1);
        bad(1, net + blanks.substring(1) + "|x");
        bad(1, blanks + "fields 4;man 0 1|x");
        bad(1, blanks + net.substring(0, net.length() - 1) + " |");
        // the last way of a text that is full to its last byte
        String full = "fields 4;" + blanks.substring(0, 400 - 9 - 8) + "way 3 0;";
        BothWrite x = Due.withNet(full);
        DUE.is("ways(0) of a full text", x.ways(0), 8);
    }

    private static void howManyFields() {
        DUE.sentence("'fields' N ';' (2 .. 9)");
        for (int n = 2; n <= 9; n++) {
            good("fields " + n + ";", 0);
            DUE.is("told(0)", Due.withNet("fields " + n + ";").told(0), n);
            DUE.is("told(4)", Due.withNet("fields " + n + ";").told(4), n - 1);
        }
        for (String n : new String[] {"0", "1", "10", "11", "99", "999", "000", "001", "010"}) {
            bad(2, "fields |" + n + ";");
        }
    }

    private static void fieldsFirst() {
        DUE.sentence("the first clause; 1: another clause ahead of 'fields', too");
        bad(1, "|way 0 1;fields 4;");
        bad(1, "|home 0 1;fields 4;");
        bad(1, "|man 0 1;fields 4;");
        bad(1, "  |man 0 1;");
        bad(1, "|way");
        bad(1, "|home 9999;");
    }

    private static void fieldsOnce() {
        DUE.sentence("3 'fields' told already (at its first letter)");
        bad(3, "fields 4;|fields 4;");
        bad(3, "fields 4;|fields");
        bad(3, "fields 4;  |fields 5;");
        bad(3, "fields 4;way 0 1;|fields 1;");
        bad(3, "fields 4;home 0 1;man 0 1; |fields fields 4;");
        bad(1, "fields 4;|fieldsfields 4;");
    }

    private static void waysOfUnlikeFields() {
        DUE.sentence("4 a way from one to itself (at the B)");
        bad(4, "fields 4;way 0 |0;");
        bad(4, "fields 4;way 3 |3;");
        bad(4, "fields 4;way 3  |003 ;");
        bad(4, "fields 2;way 1 |1");
        good("fields 2;way 1 0;", 0);
        good("fields 9;way 8 7;", 0);
    }

    private static void waysOnce() {
        DUE.sentence("each two once; 4 two again (at the B)");
        bad(4, "fields 4;way 0 1;way 0 |1;");
        bad(4, "fields 4;way 0 1;way 1 |0;");
        bad(4, "fields 4;way 2 3;way 0 1;way 03 |002;");
        bad(4, "fields 9;way 8 0;way 0 |8 x");
        good("fields 4;way 0 1;way 0 2;way 1 2;", 0);
    }

    private static void threeWays() {
        DUE.sentence("3 ways at most of a FIELD; 4 a fourth way of one (at the B)");
        good("fields 5;way 0 1;way 0 2;way 0 3;", 0);
        good("fields 5;way 1 0;way 2 0;way 3 0;way 4 1;way 4 2;way 4 3;", 0);
        bad(4, "fields 5;way 0 1;way 0 2;way 0 3;way 0 |4;");
        bad(4, "fields 5;way 0 1;way 0 2;way 0 3;way 4 |0;");
        bad(4, "fields 5;way 0 4;way 1 4;way 2 4;way 3 |4;");
        bad(4, "fields 5;way 0 4;way 1 4;way 2 4;way 4 |3;");
        bad(4, "fields 9;way 0 1;way 2 0;way 0 3;way 8 5;way 8 6;way 7 8;way 0 |8;");
        BothWrite x = Due.withNet("fields 4;way 0 1;way 0 2;way 0 3;way 1 2;way 1 3;way 2 3;");
        for (int f = 0; f < 4; f++) {
            DUE.is("ways(" + f + "), three of each", x.ways(f), 15 - (1 << f));
        }
    }

    private static void homesUnlike() {
        DUE.sentence("4 a home like the other (at the B)");
        bad(4, "fields 4;home 0 |0;");
        bad(4, "fields 4;home 3 |3;");
        bad(4, "fields 4;home 03 |3 4");
        good("fields 4;home 3 0;", 0);
        good("fields 2;home 1 0;", 0);
    }

    private static void homesOnce() {
        DUE.sentence("3 'home' told already (at its first letter)");
        bad(3, "fields 4;home 0 1;|home 0 1;");
        bad(3, "fields 4;home 0 3;|home 1 2;");
        bad(3, "fields 4;home 0 1;way 0 1; |home");
        bad(3, "fields 4;home 0 1;|home 9 9;");
    }

    private static void homesUntold() {
        DUE.sentence("homes: 0 and the last one untold");
        for (int n = 2; n <= 9; n++) {
            BothWrite x = Due.withNet("fields " + n + ";");
            DUE.is("told(3) of " + n, x.told(3), 0);
            DUE.is("told(4) of " + n, x.told(4), n - 1);
            x = Due.withNet("fields " + n + ";home " + (n - 1) + " 0;");
            DUE.is("told(3) of " + n, x.told(3), n - 1);
            DUE.is("told(4) of " + n, x.told(4), 0);
        }
    }

    private static void sidesOfMen() {
        DUE.sentence("'man' S F ';' (SIDE 0, 1)");
        good("fields 4;man 0 1;man 1 2;", 2);
        bad(2, "fields 4;man |2 1;");
        bad(2, "fields 4;man |3 9;");
        bad(2, "fields 4;man |999 1;");
        good("fields 4;man 000 1;man 01 2;", 2);
    }

    private static void fieldsThatHaveAMan() {
        DUE.sentence("on a FIELD that has no MAN; 4 a FIELD that has a MAN (at the F)");
        bad(4, "fields 4;man 0 1;man 0 |1;");
        bad(4, "fields 4;man 0 1;man 1 |1;");
        bad(4, "fields 4;man 1 0;man 0 |0;");
        bad(4, "fields 4;man 1 3;man 0 2;man 1 |3");
        good("fields 4;man 1 3;man 0 2;man 1 0;man 0 1;", 4);
    }

    private static void threeMen() {
        DUE.sentence("3 MEN at most of a SIDE; 4 a fourth MAN of a SIDE (at the F)");
        good("fields 6;man 0 0;man 0 1;man 0 2;", 3);
        good("fields 6;man 0 0;man 1 3;man 0 1;man 1 4;man 0 2;man 1 5;", 6);
        bad(4, "fields 6;man 0 0;man 0 1;man 0 2;man 0 |3;");
        bad(4, "fields 6;man 1 0;man 1 1;man 1 2;man 0 3;man 1 |4;");
        bad(4, "fields 9;man 0 0;man 1 3;man 0 1;man 1 4;man 0 2;man 1 5;man 0 |8;");
        bad(4, "fields 6;man 0 0;man 0 1;man 0 2;man 0 |2;");
    }

    private static void oneToThreeFigures() {
        DUE.sentence("NUMBERS have one to three figures; 2 a NUMBER of four figures or more (at its first)");
        good("fields 4;way 0 1;", 0);
        good("fields 04;way 00 01;home 01 02;man 01 03;", 1);
        good("fields 004;way 000 001;home 001 002;man 001 003;", 1);
        bad(2, "fields |0004;");
        bad(2, "fields |00000000000000000004;");
        bad(2, "fields |4294967300;");
        bad(2, "fields |18446744073709551620;");
        bad(2, "fields 4;way |0000 1;");
        bad(2, "fields 4;way 0 |0001;");
        bad(2, "fields 4;home |0001 2;");
        bad(2, "fields 4;home 1 |0002;");
        bad(2, "fields 4;man |0000 2;");
        bad(2, "fields 4;man 0 |0002;");
        bad(2, "fields 4;man 0 |4294967297;");
        bad(2, "fields |0004");
    }

    private static void words() {
        DUE.sentence("words are letters a .. z side by side; 1: a word that cannot: at its first letter");
        for (String word : new String[] {"a", "z", "field", "fieldss", "xfields", "zields", "aields", "fielda", "fieldz"}) {
            bad(1, "|" + word + " 4;");
        }
        for (String word : new String[] {"w", "wa", "ways", "wayz", "waya", "aay", "zay", "hom", "homes", "ma", "men",
            "manx", "manman", "wayway", "homehome", "wayhome"}) {
            bad(1, "fields 4;|" + word + " 0 1;");
            bad(1, "fields 4; |" + word);
        }
        // the signs beside a and z, the great letters and those above 127 are no letters
        for (char c : new char[] {'`', '{', '@', '[', 'A', 'Z', 'F', '_', '-', '\u00e1', '\u00fa', '\u00ff', '\u0080', 0, 1, 127}) {
            bad(1, "|" + c + "fields 4;");
            bad(1, "fields|" + c + "4;");
            bad(1, "|fie" + c + "lds 4;");
            bad(1, "fields 4;|wa" + c + "y 0 1;");
        }
    }

    private static void blanks() {
        DUE.sentence("blanks (32) may stand anywhere but within words and NUMBERS");
        good(" fields 4 ; way 0 1 ; home 1 2 ; man 0 3 ; ", 1);
        good("    fields    4    ;    way    0    1    ;    man    0    3    ;    ", 1);
        good("fields4;way0 1;home1 2;man0 3;", 1);
        for (char c : new char[] {9, 10, 11, 12, 13, 31, 33, 160, 0, '.', ',', '_', 127, 255}) {
            bad(1, "fields|" + c + "4;");
            bad(1, "fields 4|" + c + ";");
            bad(1, "fields 4;|" + c);
            bad(1, "fields 4;way 0|" + c + "1;");
            bad(1, "|" + c + " fields 4;");
        }
    }

    private static void blanksWithin() {
        DUE.sentence("blanks ... within words and NUMBERS");
        bad(1, "|fi elds 4;");
        bad(1, "|f ields 4;");
        bad(1, "|field s 4;");
        bad(1, "fields 4;|w ay 0 1;");
        bad(1, "fields 4;|ho me 0 1;");
        bad(1, "fields 4;|ma n 0 1;");
        bad(1, "fields 4 |0;");
        bad(1, "fields 9;way 0 1 |0;");
        bad(1, "fields 9;home 1 0 |0;");
        bad(1, "fields 9;man 0 0 |3;");
    }

    private static void oneBlankBetween() {
        DUE.sentence("two words, two NUMBERS side by side need one");
        good("fields 4;way 0 1;", 0);
        bad(1, "fields 4;way 01|;");
        bad(1, "fields 4;home 003|;");
        // as one number it is out of its bounds
        bad(2, "fields 4;way |10;");
        bad(2, "fields 4;home |12;");
        bad(2, "fields 4;man |12;");
        bad(1, "fields 4;man 01|;");
        bad(1, "|fieldsfields 4;");
        bad(1, "fields 4;|manway 0 1;");
        // a word behind a NUMBER, a NUMBER behind a word need none
        good("fields4;man0 1;man1 2;", 2);
        bad(1, "fields 4|way 0 1;");
    }

    private static void cannotStandThere() {
        DUE.sentence("1 it cannot stand there");
        bad(1, "|;");
        bad(1, "|4;");
        bad(1, "|4 fields;");
        bad(1, "fields|;");
        bad(1, "fields |way 0 1;");
        bad(1, "fields 4;|;");
        bad(1, "fields 4;|;way 0 1;");
        bad(1, "fields 4;|0 1;");
        bad(1, "fields 4 |4;");
        bad(1, "fields 4 |fields 4;");
        bad(1, "fields 4;way |;");
        bad(1, "fields 4;way 0 |;");
        bad(1, "fields 4;way 0 |way;");
        bad(1, "fields 4;way |home 0 1;");
        bad(1, "fields 4;way 0 1 |2;");
        bad(1, "fields 4;way 0 1 |way 1 2;");
        bad(1, "fields 4;home 0 |man 0 1;");
        bad(1, "fields 4;man 0 |;");
        bad(1, "fields 4;man |-1 0;");
        bad(1, "fields 4;man |+1 0;");
        bad(1, "fields 4;man 0|,1;");
        bad(1, "fields 4;man 0 1|.");
        bad(1, "fields 4;man 0 1|x;");
        bad(1, "fields 3|d;");
    }

    private static void theEnd() {
        DUE.sentence("the end at the text's length");
        bad(1, "fields|");
        bad(1, "fields   |");
        bad(1, "fields 4|");
        bad(1, "fields 4  |");
        bad(1, "fields 4;way|");
        bad(1, "fields 4;way |");
        bad(1, "fields 4;way 0|");
        bad(1, "fields 4;way 0 |");
        bad(1, "fields 4;way 0 1|");
        bad(1, "fields 4;way 0 1 |");
        bad(1, "fields 4;home|");
        bad(1, "fields 4;home 1|");
        bad(1, "fields 4;home 1 0|");
        bad(1, "fields 4;man|");
        bad(1, "fields 4;man 1|");
        bad(1, "fields 4;man 1 0 |");
        good("fields 4;man 1 0;", 1);
    }

    /** A text that stood there before, and was longer, has no part in it. */
    private static void nothingBehindTheEnd() {
        DUE.sentence("THE TEXT (it is empty then...): the end at the text's length, whatever stood behind it");
        String[] texts = {"fields", "field", "fields ", "fields 4", "fields 4;wa", "fields 4;way", "fields 4;way 0",
            "fields 4;way 0 1", "fields 4;way 0 1 ", "fields 4;home 1", "fields 4;man 0 1", "fields 4;man 0 1;way 2 3", "w", " "};
        int[] numbers = {1, 1, 1, 1, 1, 1, 1, 1, 1, 1, 1, 1, 1, 0};
        int[] places = {6, 0, 7, 8, 9, 12, 14, 16, 17, 15, 16, 24, 0, NONE};
        for (String sign : new String[] {" ", ";", "0", "1", "s", "y", "4;", " 1;", "x"}) {
            for (int k = 0; k < texts.length; k++) {
                BothWrite x = new BothWrite();
                Due.feed(x, sign.repeat(400 / sign.length()));
                x.net();
                Due.feed(x, texts[k]);
                String name = " of '" + texts[k] + "' where '" + sign + "' stood";
                DUE.is("net()" + name, x.net(), numbers[k] == 0 ? 0 : -10 - numbers[k]);
                DUE.is("fault()" + name, x.fault(), places[k]);
            }
        }
        // nor has a net that was told before
        BothWrite x = Due.withNet("fields 9;home 8 7;way 0 1;way 0 2;way 0 3;man 0 0;man 0 1;man 0 2;man 1 3;man 1 4;man 1 5;");
        Due.feed(x, "fields 9;way 0 1;way 0 4;way 0 5;man 0 0;man 1 1;");
        DUE.is("net() behind another", x.net(), 2);
        int[] told = {9, 1, 1, 0, 8};
        for (int what = 0; what < told.length; what++) {
            DUE.is("told(" + what + ") behind another", x.told(what), told[what]);
        }
        DUE.is("ways(0) behind another", x.ways(0), 2 + 16 + 32);
        DUE.is("ways(2) behind another", x.ways(2), 0);
        DUE.is("man(0, 1) behind another", x.man(0, 1), UNKNOWN);
        // nor one that had a fault
        Due.feed(x, "fields 9;home 1 2;way 2 3;man 0 4;man 0 4;");
        DUE.is("net() of a fault", x.net(), -14);
        Due.feed(x, "fields 5;home 2 1;way 2 3;man 0 4;");
        DUE.is("net() behind a fault", x.net(), 1);
        DUE.is("man(0, 0) behind a fault", x.man(0, 0), 4);
        DUE.is("told(3) behind a fault", x.told(3), 2);
    }

    private static void numbersOutOfBounds() {
        DUE.sentence("2 a NUMBER ... out of its bounds (at its first)");
        for (int n = 2; n <= 9; n++) {
            String net = "fields " + n + ";";
            int last = n - 1;
            good(net + "way 0 " + last + ";", 0);
            good(net + "way " + last + " 0;", 0);
            good(net + "home " + last + " 0;man 0 " + last + ";", 1);
            bad(2, net + "way |" + n + " 0;");
            bad(2, net + "way 0 |" + n + ";");
            bad(2, net + "home |" + n + " 0;");
            bad(2, net + "home 0 |" + n + ";");
            bad(2, net + "man 0 |" + n + ";");
            bad(2, net + "man 1 |" + n + ";");
        }
        bad(2, "fields 9;way |999 0;");
        bad(2, "fields 9;man 0 |10;");
    }

    private static void firstByteOfAll() {
        DUE.sentence("FAULTS, at the first byte that has one");
        bad(4, "fields 4;way 1 |1 x");
        bad(4, "fields 4;way 1 |1");
        bad(4, "fields 4;home 1 |1;fields 4;");
        bad(4, "fields 4;man 0 1;man 0 |1 1;");
        bad(3, "fields 4;|fields 9999;");
        bad(3, "fields 4;home 0 1;|home x");
        bad(2, "fields |1 x;");
        bad(2, "fields |1");
        bad(2, "fields 4;way |4 4;");
        bad(2, "fields 4;way |4 x;");
        bad(2, "fields 4;way |4");
        bad(2, "fields 4;home |4 4;");
        bad(2, "fields 4;man |2 9;");
        bad(1, "fields 4;home 0|;home 0 1;");
        bad(1, "fields 4;way 0 |x 9999;");
    }

    private static void leastOfTheSameByte() {
        DUE.sentence("of these the least");
        // a NUMBER of four figures where none can stand
        bad(1, "fields 4;|1000;");
        bad(1, "fields 4 |1000;");
        bad(1, "fields 4;way 0 1 |1000;");
        bad(1, "|1000");
        // 'fields', 'home' told already, where no word can stand
        bad(1, "fields |fields 4;");
        bad(1, "fields 4;way |fields 4;");
        bad(1, "fields 4;home 0 1;way 0 |home;");
        bad(1, "fields 4;home 0 1 |home 0 1;");
        // of four figures, and like the other
        bad(2, "fields 4;way 1 |0001;");
        bad(2, "fields 4;home 1 |0001;");
        bad(2, "fields 4;man 0 1;man 0 |0001;");
        // out of its bounds, and a fourth
        bad(2, "fields 5;way 0 1;way 0 2;way 0 3;way 0 |5;");
        bad(2, "fields 6;man 0 0;man 0 1;man 0 2;man 0 |6;");
        bad(2, "fields 6;man 0 0;man 0 1;man 0 2;man 0 |0002;");
    }

    private static void numberedAsTold() {
        DUE.sentence("MEN of a SIDE are numbered as told");
        BothWrite x = Due.withNet("fields 9;man 1 5;man 0 8;man 1 0;man 0 7;man 0 3;man 1 2;");
        int[] fields = {8, 7, 3, 5, 0, 2};
        for (int k = 0; k < 6; k++) {
            DUE.is("man(" + k / 3 + ", " + k % 3 + ")", x.man(k / 3, k % 3), fields[k]);
        }
        DUE.is("told(1)", x.told(1), 3);
        DUE.is("told(2)", x.told(2), 3);
        for (int a = 0; a <= 3; a++) {
            for (int b = 0; b <= 3; b++) {
                String men = "man 0 0;man 0 1;man 0 2;".substring(0, 8 * a) + "man 1 3;man 1 4;man 1 5;".substring(0, 8 * b);
                x = new BothWrite();
                Due.feed(x, "fields 6;" + men);
                DUE.is("net() of '" + men + "'", x.net(), a + b);
                DUE.is("told(1) of '" + men + "'", x.told(1), a);
                DUE.is("told(2) of '" + men + "'", x.told(2), b);
            }
        }
    }

    private static void waysByRisingFields() {
        DUE.sentence("ways of a FIELD by rising FIELDS");
        BothWrite x = Due.withNet("fields 9;home 5 6;way 4 8;way 0 4;way 4 3;man 0 4;man 1 7;");
        DUE.is("ways(4)", x.ways(4), 1 + 8 + 256);
        DUE.is("way 0 of 4", x.tried(1, 0, 1), 0);
        DUE.is("way 1 of 4", x.tried(2, 0, 1), 3);
        DUE.is("way 2 of 4", x.tried(3, 0, 1), 8);
        DUE.sentence("A SET is a whole number, bit k for k");
        DUE.is("ways(0)", x.ways(0), 16);
        DUE.is("ways(8)", x.ways(8), 16);
        DUE.is("ways(7), none", x.ways(7), 0);
    }

    private static void bytesHighestFirst() {
        DUE.sentence("The lowest n bytes (1 .. 8) of a long, the highest of these first");
        String text = "fields 7;way 6 1;man 1 3;";
        for (int n = 1; n <= 8; n++) {
            for (long above : new long[] {0, -1, 0x7a7a7a7a7a7a7a7aL}) {
                BothWrite x = new BothWrite();
                for (int from = 0; from < text.length(); from += n) {
                    int to = Math.min(from + n, text.length());
                    long bytes = above;
                    for (int i = from; i < to; i++) {
                        bytes = bytes << 8 | text.charAt(i);
                    }
                    DUE.is("feed(" + (to - from) + ", " + bytes + ")", x.feed(to - from, bytes), to);
                }
                DUE.is("net(), fed by " + n, x.net(), 1);
                DUE.is("ways(6), fed by " + n, x.ways(6), 2);
            }
        }
        // a byte of 255, a long below 0: they are no blanks, and each is one byte
        BothWrite x = new BothWrite();
        DUE.is("feed(8, -1)", x.feed(8, -1L), 8);
        DUE.is("net()", x.net(), -11);
        DUE.is("fault()", x.fault(), 0);
        x.feed(8, 0x2020202020202000L);
        DUE.is("net() of seven blanks and a 0", x.net(), -11);
        DUE.is("fault() of seven blanks and a 0", x.fault(), 7);
        x.feed(8, Long.MIN_VALUE);
        DUE.is("net() of 128 and 0s", x.net(), -11);
        DUE.is("fault() of 128 and 0s", x.fault(), 0);
    }

    private static void textIsEmptyThen() {
        DUE.sentence("THE TEXT (it is empty then, with a FAULT, too)");
        BothWrite x = new BothWrite();
        Due.feed(x, "fields 4;man 0 1;");
        DUE.is("told(8)", x.told(8), 17);
        x.net();
        DUE.is("told(8) behind net()", x.told(8), 0);
        DUE.is("feed(1, 'f') is the first byte", x.feed(1, 'f'), 1);
        DUE.is("net() of 'f'", x.net(), -11);
        DUE.is("told(8) behind a fault", x.told(8), 0);
        DUE.is("feed(2, '  ') is the first, the second byte", x.feed(2, 0x2020), 2);
        DUE.is("net() of two blanks", x.net(), 0);
        DUE.is("fault()", x.fault(), NONE);
    }

    private static void allElseIsAsItWas() {
        DUE.sentence("net: -10 less the number of its FAULT (all else is as it was)");
        String[] faults = {"x", "fields 1;", "fields 4;fields 4;", "fields 4;home 1 1;"};
        int[] places = {0, 7, 9, 16};
        for (int k = 0; k < faults.length; k++) {
            BothWrite x = new BothWrite();
            BothWrite y = new BothWrite();
            rich(x);
            rich(y);
            Due.feed(x, faults[k]);
            DUE.is("net() of '" + faults[k] + "'", x.net(), -11 - k);
            DUE.is("fault() of '" + faults[k] + "'", x.fault(), places[k]);
            // the place of a fault is of the latest net(), so both are given one alike
            Due.feed(x, "x");
            Due.feed(y, "x");
            x.net();
            y.net();
            Alike.are(DUE, "behind the fault of '" + faults[k] + "'", x, y);
        }
    }

    private static void rich(BothWrite x) {
        Due.feed(x, "fields 9;home 7 8;way 0 1;way 0 2;way 0 3;way 1 2;way 3 4;man 0 1;man 0 2;man 1 0;man 1 3;");
        x.net();
        x.law(2);
        x.seed(4);
        x.move(25, 0);
        x.keep(1);
        x.move(1, 1);
        x.log(0, 0);
        x.log(25, 2);
        x.promise(0, 0, 1, 0);
        x.promise(1, 0, 1, 1);
        x.stand(0, 1, 8);
    }

    private static void whatANetLeaves() {
        DUE.sentence("net: MEN as told, LAW, THE SEED as they are; no GAME, LOG, PROMISES; IMAGES are gone");
        String text = "fields 6;way 0 1;way 1 2;way 2 3;man 1 4;man 0 2;";
        BothWrite x = new BothWrite();
        rich(x);
        x.keep(0);
        int seed = x.seed(1234);
        DUE.is("seed as it was told", seed, 4);
        Due.feed(x, text);
        DUE.is("net() behind a game", x.net(), 2);
        // the same as a new object to which but the law and the seed were told
        BothWrite y = new BothWrite();
        y.law(2);
        y.seed(1234);
        Due.feed(y, text);
        y.net();
        Alike.are(DUE, "a net behind a game", x, y);
        BothWrite z = new BothWrite();
        rich(z);
        Due.feed(z, text);
        z.net();
        int[] told = {6, 1, 1, 0, 5, 0, 0, 0, 0, 2, 0};
        for (int what = 0; what < told.length; what++) {
            DUE.is("told(" + what + ")", z.told(what), told[what]);
        }
        DUE.is("goBack(0)", z.goBack(0), BothWrite.NOT);
        DUE.is("goBack(1)", z.goBack(1), BothWrite.NOT);
        DUE.is("stand(0, 0, 0) is as told by net()", z.stand(0, 0, 0), 2);
        DUE.is("stand(1, 0, 0) is as told by net()", z.stand(1, 0, 0), 4);
        DUE.is("seed(0)", z.seed(0), 4);
    }

    private static void latestNet() {
        DUE.sentence("The place ... of the latest net(); NONE");
        BothWrite x = new BothWrite();
        DUE.is("fault() ahead of any net()", x.fault(), NONE);
        Due.feed(x, "fields 0;");
        DUE.is("fault() is not told by feed()", x.fault(), NONE);
        x.net();
        DUE.is("fault()", x.fault(), 7);
        DUE.is("fault() again", x.fault(), 7);
        Due.feed(x, "fields 4;way 1 1;");
        DUE.is("fault() till the next net()", x.fault(), 7);
        x.net();
        DUE.is("fault() of the next net()", x.fault(), 15);
        Due.feed(x, "fields 4;");
        x.net();
        DUE.is("fault() of a good one", x.fault(), NONE);
        Due.feed(x, "?");
        x.net();
        DUE.is("fault() at the first byte", x.fault(), 0);
        x.net();
        DUE.is("fault() of an empty text", x.fault(), NONE);
    }
}
