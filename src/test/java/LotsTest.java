import java.lang.reflect.Constructor;
import java.lang.reflect.Method;

/**
 * Promises 19 and 20, the lots themselves. No net is known on which a duel wants more than one order
 * of a side (see NOTES.md), so what the document says of greater sets is tried inside the class.
 */
public final class LotsTest {
    private static final Due DUE = new Due("LotsTest");
    private static final int ALL = 1000000;
    private static long state = 7;

    public static void main(String[] args) throws ReflectiveOperationException {
        if (!thereIsSuchAClass()) {
            System.out.println("LotsTest: there is no BothWrite$Lots, so nothing of it is tried");
            return;
        }
        byHand();
        besideTheOracle();
        DUE.end();
    }

    /** Another make-up of the class is as good; then the calls alone must do. */
    private static boolean thereIsSuchAClass() {
        for (Class<?> inside : BothWrite.class.getDeclaredClasses()) {
            if (inside.getSimpleName().equals("Lots")) {
                return true;
            }
        }
        return false;
    }

    private static void byHand() throws ReflectiveOperationException {
        DUE.sentence("by whose shares all ORDERS of the other's SET are worth the same; VALUE cut; of a MILLION (cut)");
        check(new int[][] {{1000, 0}, {0, 1000}}, 500, new int[] {500000, 500000}, new int[] {500000, 500000});
        check(new int[][] {{900, 0}, {0, 300}}, 225, new int[] {250000, 750000}, new int[] {250000, 750000});
        check(new int[][] {{1000, 0}, {0, 500}}, 333, new int[] {333333, 666666}, new int[] {333333, 666666});
        DUE.sentence("the first pair of SETS (sizes rising, then side 0's SET, then side 1's)");
        check(new int[][] {{500, 500}, {500, 500}}, 500, new int[] {1000000, 0}, new int[] {1000000, 0});
        check(new int[][] {{500, 1000, 0}, {0, 500, 1000}, {1000, 0, 500}}, 500,
            new int[] {333333, 333333, 333333}, new int[] {333333, 333333, 333333});
        check(new int[][] {{0, 1000}, {1000, 0}, {400, 400}}, 500, new int[] {500000, 500000, 0}, new int[] {500000, 500000});
        check(new int[][] {{0, 1000, 600}, {1000, 0, 600}}, 500, new int[] {500000, 500000}, new int[] {500000, 500000, 0});
        DUE.sentence("shares are 0 or more, no ORDER of side 0 is worth more, none of side 1 less");
        check(new int[][] {{300, 300}, {0, 1000}, {1000, 0}}, 500, new int[] {0, 500000, 500000}, new int[] {500000, 500000});
        check(new int[][] {{700, 0, 1000}, {700, 1000, 0}}, 500, new int[] {500000, 500000}, new int[] {0, 500000, 500000});
        check(new int[][] {{0, 1000, 1000}, {1000, 0, 1000}, {1000, 1000, 0}}, 666,
            new int[] {333333, 333333, 333333}, new int[] {333333, 333333, 333333});
        check(new int[][] {{0, 1000, 1000, 1000}, {1000, 0, 1000, 1000}, {1000, 1000, 0, 1000}, {1000, 1000, 1000, 0}}, 750,
            new int[] {250000, 250000, 250000, 250000}, new int[] {250000, 250000, 250000, 250000});
        DUE.sentence("just one way");
        // of the first two rows any shares are alike, so they are no such pair; with 0 and 2 the share of 2 is 0
        check(new int[][] {{500, 500}, {500, 500}, {1000, 0}, {0, 1000}}, 500, new int[] {ALL, 0, 0, 0}, new int[] {500000, 500000});
    }

    private static void check(int[][] t, int value, int[] lot0, int[] lot1) throws ReflectiveOperationException {
        int[] got = solve(t);
        DUE.is("value", got[0], value);
        for (int k = 0; k < 4; k++) {
            DUE.is("share of side 0, order " + k, got[1 + k], k < lot0.length ? lot0[k] : 0);
            DUE.is("share of side 1, order " + k, got[5 + k], k < lot1.length ? lot1[k] : 0);
        }
    }

    private static int pick(int n) {
        state = state * 6364136223846793005L + 1442695040888963407L;
        return (int) ((state >>> 33) % n);
    }

    private static void besideTheOracle() throws ReflectiveOperationException {
        DUE.sentence("exactly by the first pair of SETS of ORDERS");
        for (int k = 0; k < 4000; k++) {
            int[][] t = new int[1 + pick(4)][1 + pick(4)];
            int step = new int[] {1, 100, 500}[pick(3)];
            for (int[] row : t) {
                for (int j = 0; j < row.length; j++) {
                    row[j] = step * pick(1000 / step + 1);
                }
            }
            Oracle.Fraction[][] want = Oracle.solve(t);
            check(t, want[2][0].cut(), shares(want[0]), shares(want[1]));
        }
    }

    private static int[] shares(Oracle.Fraction[] lot) {
        int[] shares = new int[lot.length];
        for (int i = 0; i < lot.length; i++) {
            shares[i] = lot[i].times(Oracle.Fraction.of(1000000)).cut();
        }
        return shares;
    }

    /** The value, four shares of side 0, four of side 1. */
    private static int[] solve(int[][] t) throws ReflectiveOperationException {
        Class<?> kind = Class.forName("BothWrite$Lots");
        Constructor<?> make = kind.getDeclaredConstructor();
        make.setAccessible(true);
        Object lots = make.newInstance();
        call(lots, "open", t.length, t[0].length);
        for (int i = 0; i < t.length; i++) {
            for (int j = 0; j < t[i].length; j++) {
                call(lots, "setPay", i, j, t[i][j]);
            }
        }
        call(lots, "solve");
        int[] got = new int[9];
        got[0] = (Integer) call(lots, "value");
        for (int k = 0; k < 8; k++) {
            got[1 + k] = (Integer) call(lots, "shareOf", k / 4, k % 4);
        }
        return got;
    }

    private static Object call(Object lots, String name, Object... numbers) throws ReflectiveOperationException {
        for (Method m : lots.getClass().getDeclaredMethods()) {
            if (m.getName().equals(name)) {
                m.setAccessible(true);
                return m.invoke(lots, numbers);
            }
        }
        throw new NoSuchMethodException(name);
    }
}
