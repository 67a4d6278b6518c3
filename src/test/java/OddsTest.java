/** Promises 27 and 28: luck, mean. */
public final class OddsTest {
    public static void main(String[] args) {
        // Somebody is turned away only if somebody comes in all three ticks.
        TokenDoors x = Due.told("leak 3 1;crowd 0 2 1;");
        String before = Due.state(x);
        luck(x, 0, 3, 0, 1);
        luck(x, 2, 3, 61, 125);
        luck(x, 3, 3, 657, 1000);
        luck(x, 5, 3, 7, 8);
        luck(x, 10, 3, 1, 1);
        luck(x, 0, 2, 1, 1);
        luck(x, 7, 0, 1, 1);
        luck(x, 10, 8, 1, 1);
        mean(x, 0, 3, 5, 1);
        mean(x, 3, 3, 3857, 1000);
        mean(x, 5, 3, 23, 8);
        mean(x, 10, 3, 0, 1);
        mean(x, 4, 0, 0, 1);
        Due.holds("odds change nothing", Due.state(x).equals(before));
        wrong(x);
        quietTicksSettle();
        countedAnew();
        largest();
        Due.finish();
    }

    private static void luck(TokenDoors x, int v, int n, long above, long below) {
        Due.is("luck(" + v + ", " + n + ", 0)", x.luck(v, n, 0), above);
        Due.is("luck(" + v + ", " + n + ", 1)", x.luck(v, n, 1), below);
    }

    private static void mean(TokenDoors x, int v, int n, long above, long below) {
        Due.is("mean(" + v + ", " + n + ", 0)", x.mean(v, n, 0), above);
        Due.is("mean(" + v + ", " + n + ", 1)", x.mean(v, n, 1), below);
    }

    private static void wrong(TokenDoors x) {
        int[][] bad = {{-1, 0, 0}, {11, 0, 0}, {0, -1, 0}, {0, 9, 0}, {0, 0, -1}, {0, 0, 2}};
        for (int[] b : bad) {
            Due.is("luck(" + b[0] + ", " + b[1] + ", " + b[2] + ")", x.luck(b[0], b[1], b[2]), TokenDoors.BAD);
            Due.is("mean(" + b[0] + ", " + b[1] + ", " + b[2] + ")", x.mean(b[0], b[1], b[2]), TokenDoors.BAD);
        }
    }

    private static void quietTicksSettle() {
        TokenDoors x = Due.told("window 2 2;crowd 0 2 1;");
        luck(x, 5, 2, 3, 4);
        // A quiet tick is a tick: behind two of them the window is emptied, whoever came.
        luck(x, 5, 4, 9, 16);
        TokenDoors y = Due.told("token 3 1;crowd 1 3 0;");
        y.alter(0, 3, 2);
        luck(y, 5, 2, 1, 1);
        mean(y, 5, 2, 3, 2);
        y.ticks(1);
        mean(y, 5, 1, 3, 2);
    }

    private static void countedAnew() {
        TokenDoors x = Due.told("window 2 1;crowd 0 3 5;");
        x.ticks(5);
        luck(x, 5, 1, 1, 2);
        mean(x, 5, 1, 1, 1);
        x.ticks(1);
        luck(x, 5, 4, 1, 1);
        mean(x, 5, 4, 0, 1);
    }

    private static void largest() {
        TokenDoors x = new TokenDoors();
        for (int i = 0; i < 8; i++) {
            x.come(0, 9, 1);
        }
        luck(x, 1, 8, 1, 1);
        mean(x, 1, 8, 2592, 5);
        mean(x, 0, 8, 576, 1);
        x.hang(0, 1, 0);
        // The one token is taken unless nobody comes in all eight ticks: 1 - 0.3^8; luck is 0.3^8.
        luck(x, 3, 8, 6561, 100000000);
        mean(x, 3, 8, 99993439, 100000000);
    }
}
