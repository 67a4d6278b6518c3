/** Promise 35: drift. */
public final class DriftTest {
    public static void main(String[] args) {
        // By the seed 1 the numbers got are 16838, 5758, 10113, 17515, 31051, 5627, 23010, 7419, 16212, 4086.
        TokenDoors x = Due.told("window 9 1;crowd 0 9 1;");
        String before = Due.state(x);
        int[] come = {8, 8, 3, 5, 1, 7, 0, 9, 2, 6};
        int sum = 0;
        for (int n = 1; n <= 10; n++) {
            sum += come[n - 1];
            Due.is("drift(1, " + n + ", 0)", x.drift(1, n, 0), sum);
            Due.is("drift(1, " + n + ", 1)", x.drift(1, n, 1), 0);
        }
        Due.holds("drift() changes nothing", Due.state(x).equals(before));
        x.alter(0, 1, 5);
        Due.is("drift(1, 10, 0) by a DEPTH of 5", x.drift(1, 10, 0), 36);
        Due.is("drift(1, 10, 1) by a DEPTH of 5", x.drift(1, 10, 1), 13);
        int[][] bad = {{0, 0}, {-1, 0}, {101, 0}, {1, -1}, {1, 2}};
        for (int[] b : bad) {
            Due.is("drift(1, " + b[0] + ", " + b[1] + ")", x.drift(1, b[0], b[1]), TokenDoors.BAD);
        }
        Due.is("drift of 100", x.drift(-7, 100, 0) + x.drift(-7, 100, 1), comers(-7, 100));
        Due.is("drift of the least seed", x.drift(Integer.MIN_VALUE, 100, 0) + x.drift(Integer.MIN_VALUE, 100, 1),
            comers(Integer.MIN_VALUE, 100));
        TokenDoors y = new TokenDoors();
        Due.is("no DOORS", y.drift(1, 1, 0), TokenDoors.STATE);
        Due.is("no DOORS and a wrong number", y.drift(1, 0, 0), TokenDoors.BAD);
        settlesByTick();
        Due.finish();
    }

    private static void settlesByTick() {
        TokenDoors x = Due.told("window 9 2;");
        Due.is("the window is emptied behind TICK 1", x.drift(1, 3, 0), 8 + 1 + 3);
        x.come(0, 9, 0);
        x.come(0, 9, 0);
        x.ticks(1);
        x.alter(0, 3, 0);
        Due.is("rule(4)", x.rule(4), 9);
        Due.is("drift(1, 3, 1) counts anew", x.drift(1, 3, 1), 2);
        Due.is("the window is emptied behind the first", x.drift(1, 3, 0), 8 + 8 + 1);
        Due.is("rule(2)", x.rule(2), 1);
    }

    private static int comers(int seed, int n) {
        int sum = 0;
        for (int i = 0; i < n; i++) {
            seed = seed * 1103515245 + 12345;
            sum += Math.floorMod(seed >> 16, 32768) % 10;
        }
        return sum;
    }
}
