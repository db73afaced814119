/** Lays two objects side by side: whatever can be asked of them has like answers. It uses both up. */
final class Alike {
    private final Due due;
    private final String name;
    private final BothWrite x;
    private final BothWrite y;

    private Alike(Due due, String name, BothWrite x, BothWrite y) {
        this.due = due;
        this.name = name;
        this.x = x;
        this.y = y;
    }

    /** About 300 calls of each, so neither may have had more than 200. */
    static void are(Due due, String name, BothWrite x, BothWrite y) {
        Alike both = new Alike(due, name, x, y);
        both.looks();
        both.game();
        both.tables();
        both.whatWas();
        both.images();
        both.text();
    }

    private void is(String call, int got, int want) {
        due.is(name + ", then " + call, got, want);
    }

    private void looks() {
        is("fault()", x.fault(), y.fault());
        for (int what = 0; what <= 10; what++) {
            is("told(" + what + ")", x.told(what), y.told(what));
        }
        for (int f = 0; f < 9; f++) {
            is("ways(" + f + ")", x.ways(f), y.ways(f));
        }
        is("slip(0, -1)", x.slip(0, -1), y.slip(0, -1));
        is("slip(1, -1)", x.slip(1, -1), y.slip(1, -1));
        men();
    }

    private void men() {
        for (int k = 0; k < 6; k++) {
            is("man " + k, x.man(k / 3, k % 3), y.man(k / 3, k % 3));
        }
    }

    private void game() {
        for (int i = 0; i < 60; i++) {
            is("game(" + i + ", 0)", x.game(i, 0), y.game(i, 0));
            is("game(" + i + ", 1)", x.game(i, 1), y.game(i, 1));
        }
        for (int i = 0; i < 8; i++) {
            is("kept(" + i + ")", x.kept(i), y.kept(i));
        }
        is("judge()", x.judge(), y.judge());
        for (int k = 0; k < 6; k++) {
            is("replayed " + k, x.replayed(k / 3, k % 3), y.replayed(k / 3, k % 3));
        }
    }

    private void tables() {
        for (int side = 0; side < 2; side++) {
            is("safe(" + side + ", 0)", x.safe(side, 0), y.safe(side, 0));
            is("safe(" + side + ", 1)", x.safe(side, 1), y.safe(side, 1));
            is("answer(" + side + ", 0)", x.answer(side, 0), y.answer(side, 0));
            is("bounds(7, " + side + ")", x.bounds(7, side), y.bounds(7, side));
            is("share(" + side + ", 0, 7)", x.share(side, 0, 7), y.share(side, 0, 7));
            is("lot(1, 2, 3, " + side + ", 1)", x.lot(1, 2, 3, side, 1), y.lot(1, 2, 3, side, 1));
        }
        is("duel(2, 1, 4)", x.duel(2, 1, 4), y.duel(2, 1, 4));
        is("written(-1, 0)", x.written(-1, 0), y.written(-1, 0));
        is("written(0, 1)", x.written(0, 1), y.written(0, 1));
    }

    private void whatWas() {
        for (int k = 0; k < 6; k++) {
            is("stand " + k, x.stand(k / 3, k % 3, -1), y.stand(k / 3, k % 3, -1));
        }
        is("seed(5)", x.seed(5), y.seed(5));
        is("law(0)", x.law(0), y.law(0));
        is("clear()", x.clear(), y.clear());
    }

    private void images() {
        for (int i = 0; i < 2; i++) {
            is("goBack(" + i + ")", x.goBack(i), y.goBack(i));
            is("told(5) of image " + i, x.told(5), y.told(5));
            is("game(0, 0) of image " + i, x.game(0, 0), y.game(0, 0));
            is("seed(6) of image " + i, x.seed(6), y.seed(6));
            men();
        }
        is("begin()", x.begin(), y.begin());
        men();
    }

    private void text() {
        is("feed(1, ';')", x.feed(1, ';'), y.feed(1, ';'));
        is("net()", x.net(), y.net());
        is("fault()", x.fault(), y.fault());
        for (int what = 0; what <= 4; what++) {
            is("told(" + what + ") of the text", x.told(what), y.told(what));
        }
        men();
    }
}
