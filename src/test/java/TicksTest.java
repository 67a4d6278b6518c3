/** Promises 15 to 20: ticks, runs, ahead, lets, turns, when; how each KIND of DOOR LETS and SETTLES. */
public final class TicksTest {
    public static void main(String[] args) {
        kindsSettle();
        crowdsComeAgain();
        ticksRun();
        ticksEnd();
        byTicks();
        countedAnew();
        runsWrong();
        firstTurned();
        Due.finish();
    }

    /** What the one DOOR of a text HOLDS behind 0, 1, 2 .. TICKS. */
    private static void held(String text, int... due) {
        TokenDoors x = Due.told(text);
        TokenDoors y = Due.told(text);
        for (int n = 0; n < due.length; n++) {
            Due.is(text + " ahead(0, " + n + ")", x.ahead(0, n), due[n]);
            Due.is(text + " door(0, 3) behind " + n, y.door(0, 3), due[n]);
            y.ticks(1);
        }
    }

    private static void kindsSettle() {
        held("token 5 2;crowd 0 4 0;", 5, 3, 5, 5);
        held("token 5 0;crowd 0 4 0;crowd 2 4 0;", 5, 1, 1, 0);
        held("leak 5 2;crowd 0 9 0;", 0, 3, 1, 0, 0);
        held("leak 5 0;crowd 0 3 0;", 0, 3, 3);
        held("window 5 3;crowd 0 2 1;", 0, 2, 4, 0, 2, 4, 0);
        held("window 5 1;crowd 0 2 1;", 0, 0, 0);
        held("window 5 0;crowd 0 2 1;", 0, 2, 4, 5, 5);
        held("half 9 2;crowd 0 9 0;", 0, 9, 4, 4, 2, 2, 1, 1, 0);
        held("half 9 0;crowd 0 9 0;", 0, 9, 9, 9);
    }

    private static void crowdsComeAgain() {
        TokenDoors x = Due.told("crowd 2 1 3;crowd 3 2 0;crowd 5 4 1;");
        int[] due = {0, 0, 1, 2, 0, 5, 4, 4, 5, 4, 4, 5};
        for (int n = 0; n < due.length; n++) {
            Due.is("lets(" + n + ")", x.lets(n), due[n]);
        }
        x.ticks(4);
        for (int n = 0; n + 4 < due.length; n++) {
            Due.is("behind 4 lets(" + n + ")", x.lets(n), due[n + 4]);
        }
    }

    private static void ticksRun() {
        TokenDoors x = Due.told("token 4 1;leak 3 1;crowd 0 3 1;");
        Due.is("ticks(-1)", x.ticks(-1), TokenDoors.BAD);
        Due.is("ticks(101)", x.ticks(101), TokenDoors.BAD);
        Due.is("ticks(0)", x.ticks(0), 0);
        Due.is("rule(2)", x.rule(2), 0);
        Due.is("ticks(1)", x.ticks(1), 3);
        Due.is("door(0, 3)", x.door(0, 3), 2);
        Due.is("door(1, 3)", x.door(1, 3), 2);
        Due.is("ticks(1)", x.ticks(1), 1);
        Due.is("door(0, 3): it LET two, though one was turned away behind it", x.door(0, 3), 1);
        Due.is("ticks(2)", x.ticks(2), 2);
        Due.is("rule(2)", x.rule(2), 4);
        Due.is("rule(3)", x.rule(3), 6);
        Due.is("rule(4)", x.rule(4), 6);
    }

    private static void ticksEnd() {
        TokenDoors x = Due.told("crowd 0 9 1;");
        for (int i = 0; i < 9; i++) {
            Due.is("ticks(100)", x.ticks(100), 900);
        }
        String before = Due.state(x);
        Due.is("ticks(100) to 1000", x.ticks(100), TokenDoors.FULL);
        Due.is("ticks(101) at 900", x.ticks(101), TokenDoors.BAD);
        Due.holds("what is refused changes nothing", Due.state(x).equals(before));
        Due.is("ticks(99)", x.ticks(99), 891);
        Due.is("rule(2)", x.rule(2), 999);
        Due.is("ticks(1) at 999", x.ticks(1), TokenDoors.FULL);
        Due.is("ticks(0) at 999", x.ticks(0), 0);
        Due.is("runs(100, 0) goes beyond", x.runs(100, 0), 900);
        Due.is("lets(100) goes beyond", x.lets(100), 9);
    }

    private static void byTicks() {
        TokenDoors x = Due.told("leak 5 2;token 3 1;crowd 0 4 2;crowd 3 9 0;");
        String before = Due.state(x);
        // tick 0: 4 come, the leak lets 4, the token 3; tick 2: 4 come, 4 let, 2 let; tick 3: 9 come, 3 let, 1 let.
        int[][] due = {
            {0, 0, 0, 0, 3}, {3, 1, 1, 1, 3}, {3, 1, 1, 1, 2}, {5, 3, 2, 2, 3}, {6, 11, 3, 8, 4}, {7, 14, 4, 8, 4}};
        for (int n = 0; n < due.length; n++) {
            for (int what = 0; what <= 4; what++) {
                Due.is("runs(" + n + ", " + what + ")", x.runs(n, what), due[n][what]);
            }
        }
        int[] turnedByLeak = {0, 0, 0, 0, 6, 8};
        int[] turnedByToken = {0, 1, 1, 3, 5, 6};
        int[] leakHolds = {0, 2, 0, 2, 3, 3};
        int[] lets = {3, 0, 2, 1, 1};
        for (int n = 0; n < turnedByLeak.length; n++) {
            Due.is("turns(0, " + n + ")", x.turns(0, n), turnedByLeak[n]);
            Due.is("turns(1, " + n + ")", x.turns(1, n), turnedByToken[n]);
            Due.is("ahead(0, " + n + ")", x.ahead(0, n), leakHolds[n]);
        }
        for (int n = 0; n < lets.length; n++) {
            Due.is("lets(" + n + ")", x.lets(n), lets[n]);
        }
        Due.is("when()", x.when(), 0);
        Due.holds("BY TICKS changes nothing", Due.state(x).equals(before));
    }

    private static void countedAnew() {
        TokenDoors x = Due.told("window 2 1;crowd 0 3 1;");
        x.ticks(10);
        Due.is("rule(3)", x.rule(3), 20);
        Due.is("rule(4)", x.rule(4), 10);
        int[] due = {4, 2, 2, 1, 0};
        for (int what = 0; what <= 4; what++) {
            Due.is("behind ten runs(2, " + what + ")", x.runs(2, what), due[what]);
        }
        Due.is("turns(0, 2)", x.turns(0, 2), 2);
        Due.is("when()", x.when(), 0);
        x.leave(0);
        Due.is("when() of nobody", x.when(), TokenDoors.NONE);
        TokenDoors y = Due.told("token 9 1;token 7 1;token 5 1;token 3 1;");
        Due.is("all four HOLD", y.runs(1, 4), 24);
        y.cut(2);
        Due.is("those that are left HOLD", y.runs(1, 4), 16);
    }

    private static void runsWrong() {
        TokenDoors x = Due.told("leak 5 2;crowd 0 1 1;");
        Due.is("runs(-1, 0)", x.runs(-1, 0), TokenDoors.BAD);
        Due.is("runs(101, 0)", x.runs(101, 0), TokenDoors.BAD);
        Due.is("runs(0, -1)", x.runs(0, -1), TokenDoors.BAD);
        Due.is("runs(0, 5)", x.runs(0, 5), TokenDoors.BAD);
        Due.is("runs(100, 0)", x.runs(100, 0), 100);
        Due.is("ahead(-1, 0)", x.ahead(-1, 0), TokenDoors.BAD);
        Due.is("ahead(1, 0)", x.ahead(1, 0), TokenDoors.BAD);
        Due.is("ahead(0, -1)", x.ahead(0, -1), TokenDoors.BAD);
        Due.is("ahead(0, 101)", x.ahead(0, 101), TokenDoors.BAD);
        Due.is("ahead(0, 100)", x.ahead(0, 100), 0);
        Due.is("lets(-1)", x.lets(-1), TokenDoors.BAD);
        Due.is("lets(101)", x.lets(101), TokenDoors.BAD);
        Due.is("lets(100)", x.lets(100), 1);
        Due.is("turns(-1, 0)", x.turns(-1, 0), TokenDoors.BAD);
        Due.is("turns(1, 0)", x.turns(1, 0), TokenDoors.BAD);
        Due.is("turns(0, -1)", x.turns(0, -1), TokenDoors.BAD);
        Due.is("turns(0, 101)", x.turns(0, 101), TokenDoors.BAD);
        Due.is("turns(0, 100)", x.turns(0, 100), 0);
    }

    private static void firstTurned() {
        Due.is("when() of nobody", new TokenDoors().when(), TokenDoors.NONE);
        Due.is("when() with no DOORS", Due.told("crowd 0 9 1;").when(), TokenDoors.NONE);
        Due.is("when() of one too many", Due.told("leak 3 1;crowd 0 2 1;").when(), 2);
        TokenDoors x = Due.told("window 1 1;crowd 99 2 1;");
        Due.is("when() at 99", x.when(), 99);
        x.ticks(50);
        Due.is("when() at 49 more", x.when(), 49);
        TokenDoors y = Due.told("window 1 1;crowd 92 1 8;crowd 91 1 9;");
        Due.is("when() at 100", y.when(), 100);
        TokenDoors z = Due.told("window 1 1;crowd 93 1 8;crowd 92 1 9;");
        Due.is("when() at 101", z.when(), TokenDoors.NONE);
        Due.is("lets(100)", z.lets(100), 0);
    }
}
