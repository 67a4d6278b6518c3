/** Boundaries of promises 27 and 28: luck, mean. */
public final class OddsEdgesTest {
    private static final long BAD = TokenDoors.BAD;

    public static void main(String[] args) throws Exception {
        Edges.run(OddsEdgesTest.class);
    }

    private static void luck(TokenDoors x, int v, int n, long above, long below) {
        Due.is("luck(" + v + ", " + n + ", 0)", x.luck(v, n, 0), above);
        Due.is("luck(" + v + ", " + n + ", 1)", x.luck(v, n, 1), below);
    }

    private static void mean(TokenDoors x, int v, int n, long above, long below) {
        Due.is("mean(" + v + ", " + n + ", 0)", x.mean(v, n, 0), above);
        Due.is("mean(" + v + ", " + n + ", 1)", x.mean(v, n, 1), below);
    }

    /** Whoever comes is turned away. */
    private static TokenDoors shut() {
        TokenDoors x = Due.told("leak 1 0;crowd 0 9 1;");
        x.alter(0, 3, 1);
        return x;
    }

    // ---- 27: luck

    @Sentence(promise = 27, says = "In each of n TICKS (0 to 8)")
    static void p27Ticks0To8() {
        luck(shut(), 1, 0, 1, 1);
        luck(shut(), 0, 0, 1, 1);
        luck(shut(), 10, 0, 1, 1);
        luck(shut(), 1, 1, 1, 10);
        luck(shut(), 1, 7, 1, 10_000_000);
        luck(shut(), 1, 8, 1, 100_000_000);
        luck(shut(), 9, 8, 43_046_721, 100_000_000);
        TokenDoors x = Due.told("window 1 1;crowd 7 2 0;");
        luck(x, 3, 7, 1, 1);
        luck(x, 3, 8, 3, 10);
        TokenDoors y = Due.told("window 1 1;crowd 8 2 0;");
        luck(y, 3, 8, 1, 1);
    }

    @Sentence(promise = 27, says = "nobody comes by v out of ten (0 to 10)")
    static void p27Odds0To10() {
        luck(shut(), 0, 1, 0, 1);
        luck(shut(), 0, 8, 0, 1);
        luck(shut(), 1, 2, 1, 100);
        luck(shut(), 5, 8, 1, 256);
        luck(shut(), 9, 1, 9, 10);
        luck(shut(), 10, 1, 1, 1);
        luck(shut(), 10, 8, 1, 1);
    }

    @Sentence(promise = 27, says = "by itself (DOORS SETTLE)")
    static void p27DoorsSettle() {
        TokenDoors x = Due.told("token 2 2;crowd 0 2 1;");
        luck(x, 4, 8, 1, 1);
        x.alter(0, 3, 0);
        luck(x, 4, 1, 2, 5);
        luck(x, 4, 2, 2, 5);
        luck(x, 4, 8, 2, 5);
        // Two come, one token comes back: of two TICKS one behind another one must be quiet.
        TokenDoors y = Due.told("token 2 1;crowd 0 2 1;");
        luck(y, 5, 2, 3, 4);
        luck(y, 5, 3, 5, 8);
        luck(y, 5, 8, 55, 256);
        Due.is("rule(2): by itself", y.rule(2), 0);
        Due.is("door(0, 3): by itself", y.door(0, 3), 2);
    }

    @Sentence(promise = 27, says = "that nobody is TURNED in them: 0, 1.")
    static void p27NobodyIsTurned() {
        luck(new TokenDoors(), 5, 8, 1, 1);
        luck(Due.told("crowd 0 9 1;"), 5, 8, 1, 1);
        luck(Due.told("window 9 1;crowd 0 9 1;"), 0, 8, 1, 1);
        TokenDoors x = shut();
        x.pass();
        Due.is("rule(4)", x.rule(4), 1);
        luck(x, 10, 8, 1, 1);
        // Three come in two TICKS, two are LET: all is well if one of the two is quiet.
        luck(Due.told("leak 2 1;crowd 0 1 0;crowd 1 2 0;"), 1, 2, 1, 1);
        luck(Due.told("leak 2 0;crowd 0 1 0;crowd 1 2 0;"), 1, 2, 19, 100);
    }

    @Sentence(promise = 27, says = "BAD.")
    static void p27Bad() {
        TokenDoors x = shut();
        Edges.bounds("luck(#, 1, 0)", v -> x.luck(v, 1, 0), 0, 10);
        Edges.bounds("luck(1, #, 0)", n -> x.luck(1, n, 0), 0, 8);
        Edges.bounds("luck(1, 1, #)", what -> x.luck(1, 1, what), 0, 1);
        Due.is("luck(11, 9, 2)", x.luck(11, 9, 2), BAD);
    }

    // ---- 28: mean

    @Sentence(promise = 28, says = "Likewise, the mean of how many are LET in them: 0, 1.")
    static void p28MeanLeastAndMost() {
        TokenDoors x = new TokenDoors();
        mean(x, 5, 8, 0, 1);
        for (int i = 0; i < 8; i++) {
            x.come(0, 9, 1);
        }
        mean(x, 0, 8, 576, 1);
        mean(x, 0, 0, 0, 1);
        mean(x, 10, 8, 0, 1);
        mean(x, 10, 0, 0, 1);
        mean(x, 1, 8, 2592, 5);
        mean(x, 9, 8, 288, 5);
        mean(x, 9, 1, 36, 5);
        mean(shut(), 0, 8, 0, 1);
    }

    @Sentence(promise = 28, says = "Likewise, the mean of how many are LET in them: 0, 1.")
    static void p28Ticks0To8() {
        TokenDoors x = Due.told("crowd 7 1 0;crowd 8 9 0;");
        mean(x, 3, 7, 0, 1);
        mean(x, 3, 8, 7, 10);
        // One is LET unless all n TICKS are quiet.
        TokenDoors y = Due.told("leak 1 0;crowd 0 1 1;");
        mean(y, 1, 1, 9, 10);
        mean(y, 1, 2, 99, 100);
        mean(y, 1, 8, 99_999_999, 100_000_000);
        mean(y, 9, 8, 100_000_000 - 43_046_721, 100_000_000);
    }

    @Sentence(promise = 28, says = "Likewise, the mean of how many are LET in them: 0, 1.")
    static void p28WhatWasLetBeforeDoesNotCount() {
        TokenDoors x = Due.told("crowd 0 4 0;");
        x.ticks(1);
        x.pass();
        Due.is("rule(3)", x.rule(3), 5);
        mean(x, 0, 8, 0, 1);
    }

    @Sentence(promise = 28, says = "BAD.")
    static void p28Bad() {
        TokenDoors x = Due.told("crowd 0 4 1;");
        Edges.bounds("mean(#, 1, 0)", v -> x.mean(v, 1, 0), 0, 10);
        Edges.bounds("mean(1, #, 0)", n -> x.mean(1, n, 0), 0, 8);
        Edges.bounds("mean(1, 1, #)", what -> x.mean(1, 1, what), 0, 1);
        Due.is("mean(11, 9, 2)", x.mean(11, 9, 2), BAD);
    }
}
