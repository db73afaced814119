/** Promises 30 to 32: seed, keep, goBack. */
public final class ImageTest {
    private static final Due DUE = new Due("ImageTest");
    private static final int UNKNOWN = BothWrite.UNKNOWN, OUTSIDE = BothWrite.OUTSIDE, NOT = BothWrite.NOT,
        GONE = BothWrite.NONE;
    private static final String FALL = "fields 9;home 7 8;way 0 1;way 0 2;way 0 3;way 1 2;man 0 1;man 0 2;man 1 0;man 1 3;";
    private static final int FELLS = 1 + 6 * 4;

    public static void main(String[] args) {
        seeds();
        images();
        twoImages();
        whatImagesLeave();
        keptByImages();
        imagesOfNoNet();
        DUE.end();
    }

    private static void seeds() {
        BothWrite x = new BothWrite();
        DUE.is("seed(-1)", x.seed(-1), OUTSIDE);
        DUE.is("seed(least)", x.seed(Integer.MIN_VALUE), OUTSIDE);
        DUE.is("seed(most)", x.seed(Integer.MAX_VALUE), 0);
        DUE.is("seed(5)", x.seed(5), 2147483647);
        DUE.is("seed(0)", x.seed(0), 5);
        // one man each on a field without ways: a move is two draws of one
        x = Due.withNet("fields 4;man 0 1;man 1 2;");
        x.drift(1);
        // 0 becomes 12345, and that 12345 times 1103515245 and 12345, less whole 2147483648s
        DUE.is("seed behind two draws", x.seed(Integer.MAX_VALUE), 1406932606);
        x.drift(1);
        long once = (2147483647L * 1103515245L + 12345L) % 2147483648L;
        DUE.is("seed behind two draws from the greatest", x.seed(0), (once * 1103515245L + 12345L) % 2147483648L);
    }

    private static void images() {
        BothWrite x = Due.withNet(FALL);
        DUE.is("keep(2)", x.keep(2), UNKNOWN);
        DUE.is("keep(-1)", x.keep(-1), UNKNOWN);
        DUE.is("goBack(2)", x.goBack(2), UNKNOWN);
        DUE.is("goBack(-1)", x.goBack(-1), UNKNOWN);
        DUE.is("goBack(0)", x.goBack(0), NOT);
        DUE.is("goBack(1)", x.goBack(1), NOT);
        x.seed(11);
        x.move(FELLS, 0);
        DUE.is("keep(0)", x.keep(0), 1);
        DUE.is("goBack(1)", x.goBack(1), NOT);
        x.seed(12);
        x.move(6, 1);
        x.begin();
        x.move(0, 4);
        x.move(1, 0);
        DUE.is("goBack(0)", x.goBack(0), 1);
        standsBehindTheFall(x);
        DUE.is("seed", x.seed(99), 11);
        // an image is gone back to as often as one likes
        x.begin();
        DUE.is("goBack(0) again", x.goBack(0), 1);
        standsBehindTheFall(x);
        DUE.is("seed", x.seed(99), 11);
        DUE.is("a move from there", x.move(0, 1), 0);
        DUE.is("told(5)", x.told(5), 2);
        DUE.is("goBack(0) behind a move from there", x.goBack(0), 1);
        standsBehindTheFall(x);
    }

    private static void standsBehindTheFall(BothWrite x) {
        DUE.is("told(5)", x.told(5), 1);
        DUE.is("told(2)", x.told(2), 1);
        DUE.is("man(0, 0)", x.man(0, 0), 0);
        DUE.is("man(0, 1)", x.man(0, 1), 2);
        DUE.is("man(1, 0)", x.man(1, 0), GONE);
        DUE.is("man(1, 1)", x.man(1, 1), 3);
        DUE.is("game(0, 0)", x.game(0, 0), FELLS);
        DUE.is("game(0, 1)", x.game(0, 1), 0);
        DUE.is("game(1, 0)", x.game(1, 0), GONE);
        DUE.is("slip(1, -1)", x.slip(1, -1), 2);
    }

    private static void twoImages() {
        BothWrite x = Due.withNet(FALL);
        x.keep(0);
        x.move(FELLS, 0);
        x.keep(1);
        x.goBack(0);
        DUE.is("told(5), image 0", x.told(5), 0);
        DUE.is("man(0, 0), image 0", x.man(0, 0), 1);
        x.goBack(1);
        DUE.is("told(5), image 1", x.told(5), 1);
        DUE.is("man(0, 0), image 1", x.man(0, 0), 0);
        x.move(0, 0);
        x.keep(0);
        x.goBack(1);
        x.goBack(0);
        DUE.is("told(5), image 0 kept anew", x.told(5), 2);
    }

    /** Law, log, promises, the standing to come to and the text are not kept. */
    private static void whatImagesLeave() {
        BothWrite x = Due.withNet(FALL);
        x.keep(1);
        x.law(2);
        x.log(0, 0);
        x.promise(0, 0, 1, 0);
        x.stand(0, 0, 5);
        x.feed(1, 'f');
        x.move(FELLS, 0);
        DUE.is("kept(0)", x.kept(0), 1);
        DUE.is("goBack(1)", x.goBack(1), 1);
        int[] told = {9, 2, 2, 7, 8, 0, 1, 1, 1, 2, 0};
        for (int what = 0; what < told.length; what++) {
            DUE.is("told(" + what + ")", x.told(what), told[what]);
        }
        DUE.is("kept(0)", x.kept(0), 0);
        DUE.is("stand(0, 0, 5)", x.stand(0, 0, 5), 5);
    }

    private static void keptByImages() {
        BothWrite x = Due.withNet(FALL);
        x.promise(1, 1, 1, 1);
        x.promise(1, 0, 0, 1);
        x.move(FELLS, 0);
        x.move(0, 1);
        x.keep(0);
        x.begin();
        x.move(0, 0);
        x.move(0, 0);
        DUE.is("kept(0) of another game", x.kept(0), 2);
        DUE.is("kept(1) of another game", x.kept(1), 1);
        x.goBack(0);
        DUE.is("kept(0) of the image's game", x.kept(0), 1);
        DUE.is("kept(1) of the image's game", x.kept(1), 2);
    }

    private static void imagesOfNoNet() {
        BothWrite x = new BothWrite();
        x.seed(3);
        DUE.is("keep(0)", x.keep(0), 1);
        x.seed(4);
        DUE.is("goBack(0)", x.goBack(0), 1);
        DUE.is("seed", x.seed(0), 3);
        DUE.is("net()", x.net(), 0);
        DUE.is("goBack(0) behind net()", x.goBack(0), NOT);
    }
}
