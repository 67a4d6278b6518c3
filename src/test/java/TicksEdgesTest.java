/** Boundaries of promises 15 to 20: ticks, runs, ahead, lets, turns, when. */
public final class TicksEdgesTest {
    private static final int BAD = TokenDoors.BAD, FULL = TokenDoors.FULL, NONE = TokenDoors.NONE;

    public static void main(String[] args) throws Exception {
        Edges.run(TicksEdgesTest.class);
    }

    /** Eight CROWDS of nine in each TICK: the most that can come. */
    private static TokenDoors crowded(String doors) {
        TokenDoors x = Due.told(doors);
        for (int i = 0; i < 8; i++) {
            x.come(0, 9, 1);
        }
        return x;
    }

    /** An object in a TICK up to 999. */
    private static TokenDoors at(int tick) {
        TokenDoors x = Due.told("crowd 0 1 1;");
        for (int i = 0; i < tick / 100; i++) {
            x.ticks(100);
        }
        x.ticks(tick % 100);
        Due.is("rule(2)", x.rule(2), tick);
        return x;
    }

    // ---- 15: ticks

    @Sentence(promise = 15, says = "n TICKS (0 to 100): how many are LET in them.")
    static void p15Ticks0To100() {
        TokenDoors x = crowded("");
        Due.is("ticks(0)", x.ticks(0), 0);
        Due.is("rule(2)", x.rule(2), 0);
        Due.is("ticks(1)", x.ticks(1), 72);
        Due.is("rule(2)", x.rule(2), 1);
        Due.is("ticks(100)", x.ticks(100), 7200);
        Due.is("rule(2)", x.rule(2), 101);
        Due.is("rule(3)", x.rule(3), 7272);
    }

    @Sentence(promise = 15, says = "BAD; FULL: TICK would be 1000 or more.")
    static void p15Bad() {
        TokenDoors x = crowded("leak 9 0;");
        String before = Due.state(x);
        Edges.all("ticks(#)", x::ticks, BAD, Edges.outside(0, 100));
        Due.holds("nothing changes", Due.state(x).equals(before));
    }

    @Sentence(promise = 15, says = "FULL: TICK would be 1000 or more.")
    static void p15FullTickWouldBe1000OrMore() {
        Due.is("ticks(99) at 900", at(900).ticks(99), 99);
        Due.is("ticks(100) at 900", at(900).ticks(100), FULL);
        Due.is("ticks(100) at 899", at(899).ticks(100), 100);
        Due.is("ticks(100) at 901", at(901).ticks(100), FULL);
        TokenDoors x = at(998);
        Due.is("ticks(2) at 998", x.ticks(2), FULL);
        Due.is("rule(2)", x.rule(2), 998);
        Due.is("ticks(1) at 998", x.ticks(1), 1);
        Due.is("ticks(1) at 999", x.ticks(1), FULL);
        Due.is("ticks(100) at 999", x.ticks(100), FULL);
        Due.is("ticks(0) at 999", x.ticks(0), 0);
        Due.is("rule(2)", x.rule(2), 999);
        Due.is("rule(3)", x.rule(3), 999);
    }

    @Sentence(promise = 15, says = "BAD; FULL: TICK would be 1000 or more.")
    static void p15BadAheadOfFull() {
        TokenDoors x = at(999);
        Due.is("ticks(101) at 999", x.ticks(101), BAD);
        Due.is("ticks(-1) at 999", x.ticks(-1), BAD);
        Due.is("ticks(the greatest) at 999", x.ticks(Integer.MAX_VALUE), BAD);
    }

    // ---- 16: runs

    @Sentence(promise = 16, says = "BY TICKS, n of them (0 to 100): how many are LET in them (what 0), TURNED (1)")
    static void p16LetAndTurnedIn0To100() {
        TokenDoors x = crowded("window 9 1;");
        int[] ns = {0, 1, 99, 100};
        for (int n : ns) {
            Due.is("runs(" + n + ", 0)", x.runs(n, 0), 9 * n);
            Due.is("runs(" + n + ", 1)", x.runs(n, 1), 63 * n);
        }
        TokenDoors y = crowded("");
        Due.is("runs(100, 0) with no DOORS", y.runs(100, 0), 7200);
        Due.is("runs(100, 1) with no DOORS", y.runs(100, 1), 0);
        TokenDoors z = new TokenDoors();
        Due.is("runs(100, 0) of nobody", z.runs(100, 0), 0);
        Due.is("runs(100, 1) of nobody", z.runs(100, 1), 0);
    }

    @Sentence(promise = 16, says = "in how many of them any is TURNED (2)")
    static void p16InHowManyAnyIsTurned() {
        TokenDoors x = Due.told("leak 1 0;crowd 0 1 1;");
        Due.is("runs(0, 2)", x.runs(0, 2), 0);
        Due.is("runs(1, 2): nobody", x.runs(1, 2), 0);
        Due.is("runs(2, 2): one", x.runs(2, 2), 1);
        Due.is("runs(100, 2)", x.runs(100, 2), 99);
        Due.is("runs(100, 2) of many", crowded("leak 1 0;").runs(100, 2), 100);
    }

    @Sentence(promise = 16, says = "how many are TURNED in the worst of them (3)")
    static void p16TurnedInTheWorst() {
        TokenDoors x = Due.told("window 2 1;crowd 0 5 0;crowd 1 9 0;crowd 2 3 0;crowd 99 8 0;");
        int[][] due = {{0, 0}, {1, 3}, {2, 7}, {3, 7}, {100, 7}};
        for (int[] d : due) {
            Due.is("runs(" + d[0] + ", 3)", x.runs(d[0], 3), d[1]);
        }
        TokenDoors y = crowded("leak 1 0;");
        y.alter(0, 3, 1);
        Due.is("runs(100, 3) of the most", y.runs(100, 3), 72);
        TokenDoors z = Due.told("window 2 1;crowd 99 9 0;");
        Due.is("runs(99, 3)", z.runs(99, 3), 0);
        Due.is("runs(100, 3): the last one is the worst", z.runs(100, 3), 7);
    }

    @Sentence(promise = 16, says = "what all DOORS HOLD then, summed (4).")
    static void p16WhatAllDoorsHold() {
        TokenDoors x = new TokenDoors();
        Due.is("runs(100, 4) with no DOORS", x.runs(100, 4), 0);
        for (int kind = 0; kind <= 3; kind++) {
            x.hang(kind, 9, 0);
            x.alter(kind, 3, 9);
        }
        Due.is("runs(0, 4) of the most", x.runs(0, 4), 36);
        Due.is("runs(100, 4) of the most", x.runs(100, 4), 36);
        for (int d = 0; d <= 3; d++) {
            x.alter(d, 3, 0);
        }
        Due.is("runs(100, 4) of nothing", x.runs(100, 4), 0);
        x.alter(0, 2, 1);
        Due.is("runs(8, 4)", x.runs(8, 4), 8);
        Due.is("runs(9, 4)", x.runs(9, 4), 9);
        Due.is("runs(10, 4)", x.runs(10, 4), 9);
    }

    @Sentence(promise = 16, says = "BAD.")
    static void p16Bad() {
        TokenDoors x = crowded("leak 9 0;");
        Edges.bounds("runs(#, 0)", n -> x.runs(n, 0), 0, 100);
        Edges.bounds("runs(100, #)", what -> x.runs(100, what), 0, 4);
    }

    @Sentence(promise = 16, says = "BY TICKS, n of them (0 to 100)")
    static void p16BeyondTick1000() {
        TokenDoors x = at(999);
        Due.is("runs(100, 0) at 999", x.runs(100, 0), 100);
        Due.is("rule(2)", x.rule(2), 999);
    }

    // ---- 17: ahead

    @Sentence(promise = 17, says = "BY TICKS: what a DOOR HOLDS behind n of them (0 to 100).")
    static void p17HoldsBehind0To100() {
        TokenDoors x = Due.told("half 9 0;token 9 1;crowd 99 4 0;");
        x.alter(1, 3, 0);
        int[][] due = {{0, 0, 0}, {1, 0, 1}, {8, 0, 8}, {9, 0, 9}, {99, 0, 9}, {100, 4, 6}};
        for (int[] d : due) {
            Due.is("ahead(0, " + d[0] + ")", x.ahead(0, d[0]), d[1]);
            Due.is("ahead(1, " + d[0] + ")", x.ahead(1, d[0]), d[2]);
        }
    }

    @Sentence(promise = 17, says = "BAD.")
    static void p17Bad() {
        TokenDoors x = crowded("leak 9 0;half 9 9;");
        Edges.bounds("ahead(#, 0)", d -> x.ahead(d, 0), 0, 1);
        Edges.bounds("ahead(1, #)", n -> x.ahead(1, n), 0, 100);
        Due.is("ahead(0, 0) with no DOORS", new TokenDoors().ahead(0, 0), BAD);
    }

    // ---- 18: lets

    @Sentence(promise = 18, says = "BY TICKS: how many are LET in TICK n (0 to 100).")
    static void p18LetInTick0To100() {
        TokenDoors x = Due.told("window 7 1;crowd 0 1 0;crowd 99 2 0;crowd 91 9 9;");
        int[][] due = {{0, 1}, {1, 0}, {90, 0}, {91, 7}, {98, 0}, {99, 2}, {100, 7}};
        for (int[] d : due) {
            Due.is("lets(" + d[0] + ")", x.lets(d[0]), d[1]);
        }
        TokenDoors y = crowded("");
        Due.is("lets(0) of the most", y.lets(0), 72);
        Due.is("lets(100) of the most", y.lets(100), 72);
        Due.is("lets(100) at 999", at(999).lets(100), 1);
    }

    @Sentence(promise = 18, says = "BAD.")
    static void p18Bad() {
        TokenDoors x = crowded("leak 9 0;");
        Edges.bounds("lets(#)", x::lets, 0, 100);
    }

    // ---- 19: turns

    @Sentence(promise = 19, says = "BY TICKS: how many a DOOR turns away in n of them (0 to 100).")
    static void p19TurnsAwayIn0To100() {
        TokenDoors x = Due.told("window 3 1;window 1 1;crowd 0 4 1;");
        int[] ns = {0, 1, 99, 100};
        for (int n : ns) {
            Due.is("turns(0, " + n + ")", x.turns(0, n), n);
            Due.is("turns(1, " + n + ")", x.turns(1, n), 2 * n);
        }
        TokenDoors y = crowded("half 1 0;leak 1 0;");
        y.alter(0, 3, 1);
        Due.is("turns(0, 100) of the most", y.turns(0, 100), 7200);
        Due.is("turns(1, 100) of whom nobody reaches", y.turns(1, 100), 0);
        y.pass();
        Due.is("turns(0, 0): what was before does not count", y.turns(0, 0), 0);
    }

    @Sentence(promise = 19, says = "BAD.")
    static void p19Bad() {
        TokenDoors x = crowded("leak 9 0;half 9 9;");
        Edges.bounds("turns(#, 0)", d -> x.turns(d, 0), 0, 1);
        Edges.bounds("turns(1, #)", n -> x.turns(1, n), 0, 100);
        Due.is("turns(0, 0) with no DOORS", new TokenDoors().turns(0, 0), BAD);
    }

    // ---- 20: when

    @Sentence(promise = 20, says = "BY TICKS: the first TICK (0 to 100) in which any is TURNED.")
    static void p20FirstTick0To100() {
        Due.is("when() in this one", Due.told("window 1 1;crowd 0 2 0;").when(), 0);
        Due.is("when() in the next", Due.told("window 1 1;crowd 1 2 0;crowd 2 2 0;").when(), 1);
        Due.is("when() in TICK 99", Due.told("window 1 1;crowd 99 2 0;").when(), 99);
        Due.is("when() in TICK 100", Due.told("window 1 1;crowd 99 1 1;crowd 98 1 2;").when(), 100);
        TokenDoors x = Due.told("window 1 1;crowd 99 2 0;");
        x.ticks(99);
        Due.is("when() from TICK 99 on", x.when(), 0);
        x.ticks(1);
        Due.is("when() behind it", x.when(), NONE);
    }

    @Sentence(promise = 20, says = "NONE: in none.")
    static void p20NoneInNone() {
        Due.is("when() of nobody", Due.told("window 1 1;").when(), NONE);
        Due.is("when() with no DOORS", crowded("").when(), NONE);
        Due.is("when() of as many as may be", Due.told("window 9 1;crowd 0 9 1;").when(), NONE);
        // Two come in TICK 101 for the first time.
        Due.is("when() in TICK 101", Due.told("window 1 1;crowd 94 1 7;crowd 96 1 5;").when(), NONE);
        Due.is("when() in TICK 100", Due.told("window 1 1;crowd 93 1 7;crowd 95 1 5;").when(), 100);
        TokenDoors x = Due.told("window 1 1;crowd 0 9 0;");
        x.ticks(1);
        Due.is("rule(4)", x.rule(4), 8);
        Due.is("when(): what was before does not count", x.when(), NONE);
    }
}
