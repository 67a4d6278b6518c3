/** Promises 21 to 26: depth, rate, swap, open, kind, fill. */
public final class BestTest {
    public static void main(String[] args) {
        leastDepth();
        leastRate();
        swapping();
        opening();
        bestKind();
        bestFill();
        nothingChanges();
        Due.finish();
    }

    private static void leastDepth() {
        TokenDoors x = Due.told("leak 9 1;crowd 0 3 0;crowd 1 2 1;");
        Due.is("leak: depth(0, 0)", x.depth(0, 0), 1);
        Due.is("leak: depth(0, 1)", x.depth(0, 1), 3);
        Due.is("leak: depth(0, 2)", x.depth(0, 2), 4);
        Due.is("leak: depth(0, 3)", x.depth(0, 3), 5);
        Due.is("leak: depth(0, 7)", x.depth(0, 7), 9);
        Due.is("leak: depth(0, 8)", x.depth(0, 8), TokenDoors.NONE);
        TokenDoors y = Due.told("token 2 0;crowd 0 3 0;");
        Due.is("token: a greater DEPTH does not fill it", y.depth(0, 1), TokenDoors.NONE);
        TokenDoors z = Due.told("token 5 1;crowd 0 2 2;");
        Due.is("token: depth(0, 100)", z.depth(0, 100), 2);
        TokenDoors w = Due.told("token 2 0;leak 1 0;crowd 0 9 0;");
        Due.is("a DOOR is asked for those who reach it", w.depth(1, 100), 2);
        w.alter(1, 3, 1);
        Due.is("what it HOLDS counts", w.depth(1, 100), 3);
        wrongDoorAndRun(x);
    }

    private static void wrongDoorAndRun(TokenDoors x) {
        int[][] bad = {{-1, 0}, {1, 0}, {0, -1}, {0, 101}};
        for (int[] b : bad) {
            Due.is("depth(" + b[0] + ", " + b[1] + ")", x.depth(b[0], b[1]), TokenDoors.BAD);
            Due.is("rate(" + b[0] + ", " + b[1] + ")", x.rate(b[0], b[1]), TokenDoors.BAD);
            Due.is("kind(" + b[0] + ", " + b[1] + ", 0)", x.kind(b[0], b[1], 0), TokenDoors.BAD);
            Due.is("fill(" + b[0] + ", " + b[1] + ", 0)", x.fill(b[0], b[1], 0), TokenDoors.BAD);
        }
    }

    private static void leastRate() {
        TokenDoors x = Due.told("token 3 9;crowd 0 2 1;");
        Due.is("token: rate(0, 0)", x.rate(0, 0), 0);
        Due.is("token: rate(0, 1)", x.rate(0, 1), 0);
        Due.is("token: rate(0, 2)", x.rate(0, 2), 1);
        Due.is("token: rate(0, 3)", x.rate(0, 3), 2);
        Due.is("token: rate(0, 100)", x.rate(0, 100), 2);
        TokenDoors y = Due.told("window 4 0;crowd 0 2 1;");
        Due.is("window: rate(0, 2)", y.rate(0, 2), 0);
        Due.is("window: rate(0, 3)", y.rate(0, 3), 1);
        TokenDoors z = Due.told("leak 1 0;crowd 0 2 0;");
        Due.is("by no RATE", z.rate(0, 1), TokenDoors.NONE);
        TokenDoors w = Due.told("leak 9 0;crowd 0 9 1;");
        Due.is("by the greatest", w.rate(0, 100), 9);
    }

    private static void swapping() {
        TokenDoors x = Due.told("token 5 0;window 1 1;crowd 0 3 1;");
        Due.is("swap(1, 0): as many", x.swap(1, 0), TokenDoors.NONE);
        Due.is("swap(1, 1): as many", x.swap(1, 1), TokenDoors.NONE);
        Due.is("swap(5, 0)", x.swap(5, 0), 1);
        Due.is("swap(5, 1)", x.swap(5, 1), 5);
        x.alter(0, 3, 2);
        Due.is("swap(5, 0): what they HOLD goes with them", x.swap(5, 0), 1);
        Due.is("swap(5, 1)", x.swap(5, 1), 2);
        TokenDoors y = Due.told("token 3 0;token 5 0;window 1 1;crowd 0 3 1;");
        Due.is("swap of the first and the last", y.swap(5, 0), 2);
        Due.is("how many", y.swap(5, 1), 3);
        TokenDoors z = Due.told("window 9 1;token 5 0;window 1 1;crowd 0 3 1;");
        Due.is("of several the least", z.swap(5, 0), 2);
        Due.is("how many", z.swap(5, 1), 5);
        // As it is 2 + 1 + 0 + 1 + 1 are let; with the last two changed 2 + 1 + 0 + 2 + 1.
        TokenDoors v = Due.told("window 2 1;leak 4 1;window 3 3;crowd 0 5 1;");
        Due.is("swap of the last two", v.swap(5, 0), 12);
        Due.is("how many", v.swap(5, 1), 6);
        TokenDoors w = Due.told("window 1 1;window 9 1;token 5 0;crowd 0 3 1;");
        Due.is("none is better", w.swap(5, 0), TokenDoors.NONE);
        Due.is("one DOOR", Due.told("token 1 0;crowd 0 3 1;").swap(5, 0), TokenDoors.NONE);
        Due.is("no DOORS", new TokenDoors().swap(5, 0), TokenDoors.NONE);
        int[][] bad = {{-1, 0}, {101, 0}, {0, -1}, {0, 2}};
        for (int[] b : bad) {
            Due.is("swap(" + b[0] + ", " + b[1] + ")", x.swap(b[0], b[1]), TokenDoors.BAD);
            Due.is("open(" + b[0] + ", " + b[1] + ")", x.open(b[0], b[1]), TokenDoors.BAD);
        }
    }

    private static void opening() {
        TokenDoors x = Due.told("leak 2 0;token 1 0;crowd 0 3 1;");
        Due.is("open(0, 0)", x.open(0, 0), TokenDoors.NONE);
        Due.is("open(5, 0)", x.open(5, 0), 1);
        Due.is("open(5, 1)", x.open(5, 1), 2);
        Due.is("both are as narrow", Due.told("leak 1 0;leak 1 0;crowd 0 3 1;").open(9, 0), TokenDoors.NONE);
        TokenDoors y = Due.told("half 1 0;crowd 0 3 1;");
        Due.is("the only DOOR", y.open(100, 0), 0);
        Due.is("how many", y.open(100, 1), 300);
        Due.is("no DOORS", Due.told("crowd 0 3 1;").open(9, 0), TokenDoors.NONE);
        // As it is 3 + 2 are let; without the leak 3 + 3, without the window 4 + 2.
        TokenDoors z = Due.told("leak 4 1;window 3 1;crowd 0 4 0;crowd 2 5 2;");
        Due.is("of several the first", z.open(4, 0), 0);
        Due.is("how many", z.open(4, 1), 6);
    }

    private static void bestKind() {
        TokenDoors x = Due.told("leak 3 1;crowd 0 3 1;");
        Due.is("kind(0, 0, 0): all are alike", x.kind(0, 0, 0), 0);
        Due.is("kind(0, 0, 1)", x.kind(0, 0, 1), 0);
        Due.is("kind(0, 1, 0): a token door would HOLD nothing", x.kind(0, 1, 0), 1);
        Due.is("kind(0, 1, 1)", x.kind(0, 1, 1), 3);
        Due.is("kind(0, 5, 0)", x.kind(0, 5, 0), 2);
        Due.is("kind(0, 5, 1)", x.kind(0, 5, 1), 15);
        x.alter(0, 3, 3);
        Due.is("kind(0, 1, 0) of one that HOLDS its DEPTH", x.kind(0, 1, 0), 0);
        Due.is("kind(0, 0, -1)", x.kind(0, 0, -1), TokenDoors.BAD);
        Due.is("kind(0, 0, 2)", x.kind(0, 0, 2), TokenDoors.BAD);
        TokenDoors y = Due.told("window 9 9;crowd 9 9 9;crowd 0 2 0;");
        y.alter(0, 3, 9);
        // token 2 + 9, leak 0 + 9, window 0 + 9, half 0 + 5
        Due.is("kind(0, 10, 0)", y.kind(0, 10, 0), 0);
        Due.is("kind(0, 10, 1)", y.kind(0, 10, 1), 11);
        TokenDoors z = Due.told("token 9 3;crowd 0 9 0;crowd 3 9 0;");
        z.alter(0, 3, 4);
        // token 4 + 9, leak 5 + 9, window 5 + 9, half 5 + 5
        Due.is("of several the first", z.kind(0, 9, 0), 1);
        Due.is("how many", z.kind(0, 9, 1), 14);
    }

    private static void bestFill() {
        TokenDoors x = Due.told("token 5 0;crowd 0 3 0;");
        Due.is("token: fill(0, 0, 0)", x.fill(0, 0, 0), 0);
        Due.is("token: fill(0, 1, 0)", x.fill(0, 1, 0), 3);
        Due.is("token: fill(0, 1, 1)", x.fill(0, 1, 1), 3);
        x.come(0, 9, 1);
        Due.is("token: DEPTH at most", x.fill(0, 100, 0), 5);
        Due.is("token: how many", x.fill(0, 100, 1), 5);
        TokenDoors y = Due.told("leak 5 1;crowd 0 9 0;");
        y.alter(0, 3, 5);
        Due.is("leak: fill(0, 1, 0)", y.fill(0, 1, 0), 0);
        Due.is("leak: fill(0, 1, 1)", y.fill(0, 1, 1), 5);
        Due.is("fill(0, 0, -1)", y.fill(0, 0, -1), TokenDoors.BAD);
        Due.is("fill(0, 0, 2)", y.fill(0, 0, 2), TokenDoors.BAD);
    }

    private static void nothingChanges() {
        TokenDoors x = Due.told("token 5 2;leak 4 3;window 6 4;half 7 3;crowd 0 3 2;crowd 1 9 0;");
        x.ticks(3);
        String before = Due.state(x);
        for (int d = 0; d < 4; d++) {
            x.depth(d, 50);
            x.rate(d, 50);
            x.kind(d, 50, 0);
            x.fill(d, 50, 0);
        }
        x.swap(50, 0);
        x.open(50, 0);
        Due.holds("questions change nothing", Due.state(x).equals(before));
    }
}
