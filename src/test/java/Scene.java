/** Men of both sides on a net, what each does, and where they stand behind one move. */
final class Scene {
    private static final int STAY = 0;

    private Scene() {
    }

    /** The order by which a man goes from a field to another. */
    static int go(BothWrite x, int from, int to) {
        return 1 + Integer.bitCount(x.ways(from) & ((1 << to) - 1));
    }

    static int slipOf(int... orders) {
        int slip = 0;
        for (int i = orders.length - 1; i >= 0; i--) {
            slip = 6 * slip + orders[i];
        }
        return slip;
    }

    /**
     * Three numbers for each man, side by side: its field; what it does (a field to go to, -1 to stay,
     * -4, -5 to help); where it stands behind it.
     */
    static int[][] men(int... numbers) {
        int[][] men = new int[numbers.length / 3][3];
        for (int i = 0; i < numbers.length; i++) {
            men[i / 3][i % 3] = numbers[i];
        }
        return men;
    }

    /** Tries the scene, then moves it; how the game is then. */
    static int play(Due due, String net, String name, int law, int[][] men0, int[][] men1) {
        StringBuilder text = new StringBuilder(net);
        for (int[] m : men0) {
            text.append("man 0 ").append(m[0]).append(';');
        }
        for (int[] m : men1) {
            text.append("man 1 ").append(m[0]).append(';');
        }
        BothWrite x = Due.withNet(text.toString());
        x.law(law);
        String where = name + ", law " + law + ": ";
        int a = slipBy(x, men0);
        int b = slipBy(x, men1);
        for (int m = 0; m < men0.length; m++) {
            due.is(where + "tried man 0 " + m, x.tried(a, b, 1 + m), men0[m][2]);
        }
        for (int m = 0; m < men1.length; m++) {
            due.is(where + "tried man 1 " + m, x.tried(a, b, 4 + m), men1[m][2]);
        }
        int how = x.tried(a, b, 0);
        due.is(where + "move", x.move(a, b), how);
        due.is(where + "told(10)", x.told(10), how);
        for (int m = 0; m < men0.length; m++) {
            due.is(where + "man 0 " + m, x.man(0, m), men0[m][2]);
        }
        for (int m = 0; m < men1.length; m++) {
            due.is(where + "man 1 " + m, x.man(1, m), men1[m][2]);
        }
        return how;
    }

    private static int slipBy(BothWrite x, int[][] men) {
        int[] orders = new int[men.length];
        for (int m = 0; m < men.length; m++) {
            int does = men[m][1];
            orders[m] = does == -1 ? STAY : does < -1 ? -does : go(x, men[m][0], does);
        }
        return slipOf(orders);
    }
}
