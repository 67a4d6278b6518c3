/** Promises 9 to 14: alter, hang, cut, come, leave, pass. */
public final class ChangeTest {
    public static void main(String[] args) {
        altering();
        alteringRefused();
        hanging();
        cutting();
        coming();
        leaving();
        passing();
        Due.finish();
    }

    private static void altering() {
        TokenDoors x = Due.told("token 5 2;leak 4 3;");
        Due.is("alter(0, 0, 3)", x.alter(0, 0, 3), 0);
        Due.is("door(0, 3): what it HOLDS stays", x.door(0, 3), 5);
        Due.is("alter(0, 1, 3)", x.alter(0, 1, 3), 5);
        Due.is("door(0, 3): DEPTH at most", x.door(0, 3), 3);
        Due.is("alter(0, 1, 9)", x.alter(0, 1, 9), 3);
        Due.is("door(0, 3): it is not filled", x.door(0, 3), 3);
        Due.is("alter(0, 2, 0)", x.alter(0, 2, 0), 2);
        Due.is("alter(0, 2, 9)", x.alter(0, 2, 9), 0);
        Due.is("alter(0, 3, 9)", x.alter(0, 3, 9), 3);
        Due.is("alter(0, 3, 0)", x.alter(0, 3, 0), 9);
        Due.is("alter(0, 0, 0)", x.alter(0, 0, 0), 3);
        Due.is("door(1, 0)", x.door(1, 0), 1);
        Due.is("alter(1, 3, 4)", x.alter(1, 3, 4), 0);
        Due.is("door(1, 4)", x.door(1, 4), 0);
    }

    private static void alteringRefused() {
        TokenDoors x = Due.told("leak 4 3;");
        String before = Due.state(x);
        int[][] bad = {
            {-1, 0, 0}, {1, 0, 0}, {0, -1, 0}, {0, 4, 0}, {0, 0, -1}, {0, 0, 4}, {0, 1, 0}, {0, 1, 10},
            {0, 2, -1}, {0, 2, 10}, {0, 3, -1}, {1, 3, 9}, {0, 3, 10}, {0, 3, 675056176},
            {0, 3, Integer.MAX_VALUE}, {0, 3, Integer.MIN_VALUE}};
        for (int[] b : bad) {
            Due.is("alter(" + b[0] + ", " + b[1] + ", " + b[2] + ")", x.alter(b[0], b[1], b[2]), TokenDoors.BAD);
        }
        Due.is("alter(0, 3, 5)", x.alter(0, 3, 5), TokenDoors.STATE);
        Due.is("alter(0, 3, 9): another DOOR may HOLD that", x.alter(0, 3, 9), TokenDoors.STATE);
        Due.holds("what is refused changes nothing", Due.state(x).equals(before));
        TokenDoors y = Due.told("half 9 3;");
        Due.is("alter(0, 3, 10) of the deepest", y.alter(0, 3, 10), TokenDoors.BAD);
        Due.is("alter(0, 3, 9) of the deepest", y.alter(0, 3, 9), 0);
    }

    private static void hanging() {
        TokenDoors x = new TokenDoors();
        Due.is("hang(0, 9, 9)", x.hang(0, 9, 9), 1);
        Due.is("door(0, 3): a token door is full", x.door(0, 3), 9);
        int[][] bad = {{-1, 1, 1}, {4, 1, 1}, {0, 0, 1}, {0, 10, 1}, {0, 1, -1}, {0, 1, 10}};
        for (int[] b : bad) {
            Due.is("hang(" + b[0] + ", " + b[1] + ", " + b[2] + ")", x.hang(b[0], b[1], b[2]), TokenDoors.BAD);
        }
        for (int kind = 1; kind <= 3; kind++) {
            Due.is("hang(" + kind + ", 1, 0)", x.hang(kind, 1, 0), kind + 1);
            Due.is("door(" + kind + ", 0)", x.door(kind, 0), kind);
            Due.is("door(" + kind + ", 3): the others are empty", x.door(kind, 3), 0);
        }
        Due.is("hang of a 5th", x.hang(0, 1, 1), TokenDoors.FULL);
        Due.is("hang of a 5th that is wrong", x.hang(0, 0, 1), TokenDoors.BAD);
        Due.is("rule(0)", x.rule(0), 4);
    }

    private static void cutting() {
        TokenDoors x = Due.told("token 5 2;leak 4 3;window 6 4;");
        Due.is("cut(-1)", x.cut(-1), TokenDoors.BAD);
        Due.is("cut(4)", x.cut(4), TokenDoors.BAD);
        Due.is("cut(3)", x.cut(3), 3);
        Due.is("cut(1)", x.cut(1), 3);
        Due.is("cut(2)", x.cut(2), TokenDoors.BAD);
        Due.is("door(0, 1)", x.door(0, 1), 5);
        Due.is("hang behind it", x.hang(3, 2, 1), 2);
        Due.is("door(1, 0)", x.door(1, 0), 3);
        Due.is("cut(0)", x.cut(0), 2);
        Due.is("rule(0)", x.rule(0), 0);
    }

    private static void coming() {
        TokenDoors x = new TokenDoors();
        int[][] bad = {{-1, 1, 1}, {100, 1, 1}, {0, 0, 1}, {0, 10, 1}, {0, 1, -1}, {0, 1, 10}};
        for (int[] b : bad) {
            Due.is("come(" + b[0] + ", " + b[1] + ", " + b[2] + ")", x.come(b[0], b[1], b[2]), TokenDoors.BAD);
        }
        Due.is("come(99, 9, 9)", x.come(99, 9, 9), 1);
        Due.is("come(0, 1, 0)", x.come(0, 1, 0), 2);
        Due.is("crowd(0, 0)", x.crowd(0, 0), 99);
        Due.is("crowd(1, 1)", x.crowd(1, 1), 1);
        for (int i = 3; i <= 8; i++) {
            Due.is("come(1, 1, 1)", x.come(1, 1, 1), i);
        }
        Due.is("come of a 9th", x.come(1, 1, 1), TokenDoors.FULL);
        Due.is("come of a 9th that is wrong", x.come(1, 0, 1), TokenDoors.BAD);
    }

    private static void leaving() {
        TokenDoors x = Due.told("crowd 0 1 1;crowd 0 2 1;crowd 0 4 1;");
        Due.is("leave(-1)", x.leave(-1), TokenDoors.BAD);
        Due.is("leave(4)", x.leave(4), TokenDoors.BAD);
        Due.is("rule(5)", x.rule(5), 7);
        Due.is("leave(3)", x.leave(3), 3);
        Due.is("leave(2)", x.leave(2), 3);
        Due.is("rule(5)", x.rule(5), 3);
        Due.is("leave(0)", x.leave(0), 2);
        Due.is("rule(1)", x.rule(1), 0);
    }

    private static void passing() {
        TokenDoors x = new TokenDoors();
        Due.is("pass() with no DOORS", x.pass(), TokenDoors.NONE);
        Due.is("rule(3)", x.rule(3), 1);
        x.hang(0, 3, 0);
        x.hang(1, 1, 0);
        Due.is("pass()", x.pass(), TokenDoors.NONE);
        Due.is("pass(): the second DOOR is full", x.pass(), 1);
        Due.is("door(0, 3): the DOOR ahead has LET him all the same", x.door(0, 3), 1);
        Due.is("pass()", x.pass(), 1);
        Due.is("pass(): the first DOOR has no token", x.pass(), 0);
        Due.is("door(1, 3)", x.door(1, 3), 1);
        Due.is("rule(2)", x.rule(2), 0);
        Due.is("rule(3)", x.rule(3), 2);
        Due.is("rule(4)", x.rule(4), 3);
    }
}
