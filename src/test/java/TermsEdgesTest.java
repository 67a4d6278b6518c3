import java.lang.reflect.Field;

/** Boundaries that the document names ahead of its promises. */
public final class TermsEdgesTest {
    private static final int BAD = TokenDoors.BAD, STATE = TokenDoors.STATE, FULL = TokenDoors.FULL, NONE = TokenDoors.NONE;
    private static final String[] KINDS = {"token", "leak", "window", "half"};

    public static void main(String[] args) throws Exception {
        Edges.run(TermsEdgesTest.class);
    }

    private static TokenDoors hung(int kind, int depth, int rate, int holds) {
        TokenDoors x = new TokenDoors();
        x.hang(kind, depth, rate);
        x.alter(0, 3, holds);
        return x;
    }

    // ---- what it is

    @Sentence(promise = 0, says = "An object is used for at most 512 calls after it has been made")
    static void whatItIsGoodFor512Calls() {
        TokenDoors x = new TokenDoors();
        x.hang(2, 9, 1);
        x.come(0, 9, 1);
        for (int call = 3; call <= 511; call++) {
            Due.is("call " + call + ", ticks(1)", x.ticks(1), 9);
        }
        Due.is("call 512, rule(3)", x.rule(3), 509 * 9);
    }

    // ---- answers

    @Sentence(promise = 0, says = "Answers: BAD -1")
    static void termsBadIsMinus1() {
        Due.is("rule(7)", new TokenDoors().rule(7), -1);
        Due.is("luck(11, 0, 0)", new TokenDoors().luck(11, 0, 0), -1L);
    }

    @Sentence(promise = 0, says = "STATE -2 (as told), FULL -3, NONE -4 (there is none)")
    static void termsStateFullNoneAreMinus2To4() {
        Due.is("back(0)", new TokenDoors().back(0), -2);
        Due.is("feed of a 161st", Worlds.packed().feed(1), -3);
        Due.is("when()", new TokenDoors().when(), -4);
    }

    @Sentence(promise = 0, says = "there is no such DOOR, CROWD, IMAGE, SHEET")
    static void termsNoSuchDoor() {
        for (int doors = 0; doors <= 4; doors++) {
            TokenDoors x = new TokenDoors();
            for (int d = 0; d < doors; d++) {
                x.hang(d, 3, 1);
            }
            for (int d : new int[] {-1, doors, doors + 1, 4, 256, Integer.MIN_VALUE, Integer.MAX_VALUE}) {
                noSuchDoor(x, d, " of " + doors);
            }
        }
    }

    private static void noSuchDoor(TokenDoors x, int d, String of) {
        Due.is("door " + d + of, x.door(d, 0), BAD);
        Due.is("alter " + d + of, x.alter(d, 0, 0), BAD);
        Due.is("ahead " + d + of, x.ahead(d, 0), BAD);
        Due.is("turns " + d + of, x.turns(d, 0), BAD);
        Due.is("depth " + d + of, x.depth(d, 0), BAD);
        Due.is("rate " + d + of, x.rate(d, 0), BAD);
        Due.is("kind " + d + of, x.kind(d, 0, 0), BAD);
        Due.is("fill " + d + of, x.fill(d, 0, 0), BAD);
        Due.is("kinds " + d + of, x.kinds(d), BAD);
        Due.is("depths " + d + of, x.depths(d), BAD);
        Due.is("rates " + d + of, x.rates(d), BAD);
        Due.is("ask " + d + of, x.ask(d, 0), BAD);
    }

    @Sentence(promise = 0, says = "there is no such DOOR, CROWD, IMAGE, SHEET")
    static void termsNoSuchCrowd() {
        TokenDoors x = new TokenDoors();
        for (int crowds = 0; crowds <= 8; crowds++) {
            Edges.all("of " + crowds + " crowd(#, 0)", i -> x.crowd(i, 0), BAD, -1, crowds, 8, 256, Integer.MIN_VALUE, Integer.MAX_VALUE);
            x.come(0, 1, 0);
        }
    }

    @Sentence(promise = 0, says = "there is no such DOOR, CROWD, IMAGE, SHEET")
    static void termsNoSuchImage() {
        TokenDoors x = new TokenDoors();
        Edges.bounds("keep(#)", x::keep, 0, 1);
        Edges.bounds("back(#)", x::back, 0, 1);
    }

    @Sentence(promise = 0, says = "there is no such DOOR, CROWD, IMAGE, SHEET")
    static void termsNoSuchSheet() {
        TokenDoors x = new TokenDoors();
        Edges.bounds("sheet(#, 0, 1)", k -> x.sheet(k, 0, 1), 0, 3);
        Edges.bounds("lay(#, 0, 1)", k -> x.lay(k, 0, 1), 0, 3);
        Edges.bounds("read(#, 0, 0, 0)", k -> x.read(k, 0, 0, 0), 0, 3);
    }

    @Sentence(promise = 0, says = "the first that fits")
    static void termsTheFirstThatFitsBadAheadOfFull() {
        TokenDoors x = Worlds.packed();
        Due.is("feed(128) of a 161st", x.feed(128), BAD);
        Due.is("hang(4, 1, 1) of a 5th", x.hang(4, 1, 1), BAD);
        Due.is("come(100, 1, 1) of a 9th", x.come(100, 1, 1), BAD);
        Due.is("ticks(101) at TICK 999", x.ticks(101), BAD);
        Due.is("see(41, 0) of a 7th", x.see(41, 0), BAD);
    }

    @Sentence(promise = 0, says = "the first that fits")
    static void termsTheFirstThatFitsBadAheadOfState() {
        TokenDoors x = hung(1, 3, 1, 0);
        Due.is("alter(1, 3, 9): no such DOOR", x.alter(1, 3, 9), BAD);
        Due.is("alter(0, 3, 10): more than any DOOR HOLDS", x.alter(0, 3, 10), BAD);
        Due.is("drift(1, 101, 0) with no DOORS", new TokenDoors().drift(1, 101, 0), BAD);
        Due.is("drift(1, 1, 2) with no DOORS", new TokenDoors().drift(1, 1, 2), BAD);
        Due.is("back(2) of no IMAGES", x.back(2), BAD);
    }

    @Sentence(promise = 0, says = "the first that fits")
    static void termsTheFirstThatFitsBadAheadOfNone() {
        TokenDoors x = Due.told("leak 1 0;crowd 0 9 1;");
        Due.is("depth(0, 100)", x.depth(0, 100), NONE);
        Due.is("depth(0, 101)", x.depth(0, 101), BAD);
        Due.is("rate(0, 100)", x.rate(0, 100), NONE);
        Due.is("rate(0, 101)", x.rate(0, 101), BAD);
        Due.is("swap(101, 0)", x.swap(101, 0), BAD);
        Due.is("swap(100, 2)", x.swap(100, 2), BAD);
        Due.is("open(101, 0) with no DOORS", new TokenDoors().open(101, 0), BAD);
        Due.is("open(100, 2) with no DOORS", new TokenDoors().open(100, 2), BAD);
        x.see(0, 72);
        Due.is("ask(0, 0)", x.ask(0, 0), NONE);
        Due.is("ask(0, 2)", x.ask(0, 2), BAD);
    }

    @Sentence(promise = 0, says = "what is refused changes nothing")
    static void termsWhatIsRefusedChangesNothing() {
        Edges.leavesAll("feed of a 161st", Worlds::packed, x -> x.feed('a'), FULL);
        Edges.leavesAll("feed(-1)", Worlds::some, x -> x.feed(-1), BAD);
        Edges.leavesAll("end(161)", Worlds::packed, x -> x.end(161), BAD);
        Edges.leavesAll("end(19)", Worlds::some, x -> x.end(19), BAD);
        Edges.leavesAll("alter(0, 3, 6)", Worlds::some, x -> x.alter(0, 3, 6), STATE);
        Edges.leavesAll("alter(0, 1, 10)", Worlds::some, x -> x.alter(0, 1, 10), BAD);
        Edges.leavesAll("hang of a 5th", Worlds::packed, x -> x.hang(0, 1, 1), FULL);
        Edges.leavesAll("hang(0, 0, 1)", Worlds::some, x -> x.hang(0, 0, 1), BAD);
        Edges.leavesAll("cut(3) of two", Worlds::some, x -> x.cut(3), BAD);
        Edges.leavesAll("come of a 9th", Worlds::packed, x -> x.come(1, 1, 1), FULL);
        Edges.leavesAll("come(1, 0, 1)", Worlds::some, x -> x.come(1, 0, 1), BAD);
        Edges.leavesAll("leave(4) of three", Worlds::some, x -> x.leave(4), BAD);
        Edges.leavesAll("ticks(1) at 999", Worlds::packed, x -> x.ticks(1), FULL);
        Edges.leavesAll("ticks(101)", Worlds::some, x -> x.ticks(101), BAD);
        Edges.leavesAll("see of a 7th", Worlds::packed, x -> x.see(0, 0), FULL);
        Edges.leavesAll("see(41, 0)", Worlds::some, x -> x.see(41, 0), BAD);
        Edges.leavesAll("forget(3) of two", Worlds::some, x -> x.forget(3), BAD);
        Edges.leavesAll("keep(2)", Worlds::some, x -> x.keep(2), BAD);
        Edges.leavesAll("back(1) of none", Worlds::some, x -> x.back(1), STATE);
        Edges.leavesAll("back(2)", Worlds::packed, x -> x.back(2), BAD);
        Edges.leavesAll("sheet(0, 0, 41)", Worlds::some, x -> x.sheet(0, 0, 41), BAD);
        Edges.leavesAll("sheet(0, 0, -1)", Worlds::some, x -> x.sheet(0, 0, -1), -14);
        Edges.leavesAll("lay(1, 0, 1) of nothing", Worlds::some, x -> x.lay(1, 0, 1), -11);
        Edges.leavesAll("lay(0, 6, 1) of six", Worlds::some, x -> x.lay(0, 6, 1), -12);
        Edges.leavesAll("read(0, 0, 0, 14)", Worlds::some, x -> x.read(0, 0, 0, 14), BAD);
        Edges.leavesAll("read of a 9th", Worlds::packed, x -> x.read(0, 0, 0, 1), -20);
    }

    @Sentence(promise = 0, says = "(but THE TAPE, as told)")
    static void termsButTheTape() {
        TokenDoors x = Worlds.some();
        Due.is("text() of 'half 3 1; window 2'", x.text(), -10 - 18);
        Due.is("count(2) behind it", x.count(2), 0);
        Due.is("rule(0) behind it", x.rule(0), 2);
    }

    @Sentence(promise = 0, says = "Fractions are in lowest terms, the denominator above 0 (0 is 0 by 1).")
    static void termsFractionsInLowestTerms() {
        TokenDoors x = Due.told("leak 1 0;crowd 0 2 1;");
        fraction("luck of 2/10", x.luck(2, 1, 0), x.luck(2, 1, 1), 1, 5);
        fraction("luck of 3/10", x.luck(3, 1, 0), x.luck(3, 1, 1), 3, 10);
        fraction("luck of 0", x.luck(0, 8, 0), x.luck(0, 8, 1), 0, 1);
        fraction("luck of 1", x.luck(10, 8, 0), x.luck(10, 8, 1), 1, 1);
        fraction("mean of 8/10", x.mean(2, 1, 0), x.mean(2, 1, 1), 4, 5);
        fraction("mean of 0", x.mean(10, 8, 0), x.mean(10, 8, 1), 0, 1);
        fraction("mean of nobody", new TokenDoors().mean(3, 8, 0), new TokenDoors().mean(3, 8, 1), 0, 1);
    }

    private static void fraction(String what, long above, long below, long dueAbove, long dueBelow) {
        Due.is(what + ", above", above, dueAbove);
        Due.is(what + ", below", below, dueBelow);
    }

    // ---- part 1: doors, crowds

    @Sentence(promise = 0, says = "DOORS (4 at most), by order")
    static void termsDoors4AtMost() {
        TokenDoors x = new TokenDoors();
        for (int d = 0; d < 4; d++) {
            Due.is("hang of DOOR " + d, x.hang(3 - d, d + 1, d), d + 1);
        }
        Due.is("hang of a 5th", x.hang(0, 1, 1), FULL);
        Due.is("rule(0)", x.rule(0), 4);
        for (int d = 0; d < 4; d++) {
            Due.is("door(" + d + ", 0), by order", x.door(d, 0), 3 - d);
        }
    }

    @Sentence(promise = 0, says = "each of a KIND (0 token, 1 leak, 2 window, 3 half)")
    static void termsKind0To3() {
        for (int kind = 0; kind <= 3; kind++) {
            Due.is("door(0, 0) of a " + KINDS[kind], Due.told(KINDS[kind] + " 1 1;").door(0, 0), kind);
        }
        Edges.bounds("hang(#, 1, 1)", v -> new TokenDoors().hang(v, 1, 1), 0, 3);
        Edges.bounds("alter(0, 0, #)", v -> hung(1, 1, 1, 0).alter(0, 0, v), 0, 3);
    }

    @Sentence(promise = 0, says = "with a DEPTH (1 to 9)")
    static void termsDepth1To9() {
        Edges.bounds("hang(1, #, 1)", v -> new TokenDoors().hang(1, v, 1), 1, 9);
        Edges.bounds("alter(0, 1, #)", v -> hung(1, 5, 1, 0).alter(0, 1, v), 1, 9);
        for (String kind : KINDS) {
            int place = -10 - kind.length() - 1;
            Due.text(kind + " 1 1;", 1, 0);
            Due.text(kind + " 9 1;", 1, 0);
            Due.text(kind + " 0 1;", place, 3);
            Due.text(kind + " 10 1;", place, 3);
            Due.text(kind + " 00 1;", place, 3);
        }
    }

    @Sentence(promise = 0, says = "a RATE (0 to 9)")
    static void termsRate0To9() {
        Edges.bounds("hang(1, 1, #)", v -> new TokenDoors().hang(1, 1, v), 0, 9);
        Edges.bounds("alter(0, 2, #)", v -> hung(1, 5, 1, 0).alter(0, 2, v), 0, 9);
        for (String kind : KINDS) {
            Due.text(kind + " 1 0;", 1, 0);
            Due.text(kind + " 1 9;", 1, 0);
            Due.text(kind + " 1 10;", -10 - kind.length() - 3, 3);
        }
    }

    @Sentence(promise = 0, says = "that HOLDS 0 to DEPTH")
    static void termsHolds0ToDepth() {
        for (int kind = 0; kind <= 3; kind++) {
            for (int depth = 1; depth <= 9; depth++) {
                TokenDoors x = hung(kind, depth, 9, 0);
                Due.is("alter(0, 3, DEPTH)", x.alter(0, 3, depth), 0);
                Due.is("alter(0, 3, 0)", x.alter(0, 3, 0), depth);
                Due.is("alter(0, 3, -1)", x.alter(0, 3, -1), BAD);
                Due.is("alter(0, 3, DEPTH + 1)", x.alter(0, 3, depth + 1), depth == 9 ? BAD : STATE);
            }
        }
    }

    @Sentence(promise = 0, says = "(at first: token DEPTH; the others 0)")
    static void termsHoldsAtFirst() {
        for (int kind = 0; kind <= 3; kind++) {
            for (int depth = 1; depth <= 9; depth += 8) {
                TokenDoors x = new TokenDoors();
                x.hang(kind, depth, 0);
                Due.is("door(0, 3), hung", x.door(0, 3), kind == 0 ? depth : 0);
                TokenDoors y = Due.told(KINDS[kind] + " " + depth + " 9;");
                Due.is("door(0, 3), told", y.door(0, 3), kind == 0 ? depth : 0);
            }
        }
    }

    @Sentence(promise = 0, says = "CROWDS (8 at most), by order")
    static void termsCrowds8AtMost() {
        TokenDoors x = new TokenDoors();
        for (int i = 0; i < 8; i++) {
            Due.is("come of CROWD " + i, x.come(90 - i, i + 1, i), i + 1);
        }
        Due.is("come of a 9th", x.come(1, 1, 1), FULL);
        Due.is("rule(1)", x.rule(1), 8);
        for (int i = 0; i < 8; i++) {
            Due.is("crowd(" + i + ", 0), by order", x.crowd(i, 0), 90 - i);
        }
    }

    @Sentence(promise = 0, says = "MANY ones (1 to 9)")
    static void termsMany1To9() {
        Edges.bounds("come(0, #, 0)", v -> new TokenDoors().come(0, v, 0), 1, 9);
        Due.text("crowd 0 1 0;", 1, 0);
        Due.text("crowd 0 9 0;", 1, 0);
        Due.text("crowd 0 0 0;", -18, 3);
        Due.text("crowd 0 10 0;", -18, 3);
        Due.is("lets(0) of 1", Due.told("crowd 0 1 0;").lets(0), 1);
        Due.is("lets(0) of 9", Due.told("crowd 0 9 0;").lets(0), 9);
    }

    @Sentence(promise = 0, says = "who come at a TICK (0 to 99)")
    static void termsCrowdsTick0To99() {
        Edges.bounds("come(#, 1, 0)", v -> new TokenDoors().come(v, 1, 0), 0, 99);
        Due.text("crowd 0 1 0;", 1, 0);
        Due.text("crowd 99 1 0;", 1, 0);
        Due.text("crowd 100 1 0;", -16, 1);
        TokenDoors x = Due.told("crowd 0 3 0;crowd 99 5 0;");
        int[][] due = {{0, 3}, {1, 0}, {98, 0}, {99, 5}, {100, 0}};
        for (int[] d : due) {
            Due.is("lets(" + d[0] + ")", x.lets(d[0]), d[1]);
        }
    }

    @Sentence(promise = 0, says = "again EVERY so many TICKS behind it (0: not again; 1 to 9)")
    static void termsEvery0NotAgain1To9() {
        Edges.bounds("come(0, 1, #)", v -> new TokenDoors().come(0, 1, v), 0, 9);
        Due.text("crowd 0 1 0;", 1, 0);
        Due.text("crowd 0 1 9;", 1, 0);
        Due.text("crowd 0 1 10;", -20, 3);
        for (int every = 0; every <= 9; every++) {
            TokenDoors x = Due.told("crowd 5 2 " + every + ";");
            for (int n = 0; n <= 30; n++) {
                boolean comes = n == 5 || every > 0 && n > 5 && (n - 5) % every == 0;
                Due.is("EVERY " + every + ": lets(" + n + ")", x.lets(n), comes ? 2 : 0);
            }
        }
    }

    @Sentence(promise = 0, says = "TICK, LET, TURNED (0 at first).")
    static void termsTickLetTurned0AtFirst() {
        TokenDoors x = new TokenDoors();
        TokenDoors y = Due.told("leak 1 0;crowd 0 9 1;");
        TokenDoors z = Due.told("leak 1 1;crowd 0 9 1;");
        z.ticks(9);
        z.runs(9, 0);
        Due.tell(z, "leak 1 0;crowd 0 9 1;");
        for (int what = 2; what <= 4; what++) {
            Due.is("new: rule(" + what + ")", x.rule(what), 0);
            Due.is("told: rule(" + what + ")", y.rule(what), 0);
            Due.is("told anew: rule(" + what + ")", z.rule(what), 0);
        }
    }

    // ---- part 1: how a door lets

    private static void lets(int kind, int depth, int holds, int answer, int holdsThen) {
        TokenDoors x = hung(kind, depth, 0, holds);
        String what = "a " + KINDS[kind] + " of DEPTH " + depth + " that HOLDS " + holds;
        Due.is(what + ": pass()", x.pass(), answer);
        Due.is(what + ": door(0, 3) then", x.door(0, 3), holdsThen);
        Due.is(what + ": LET", x.rule(3), answer == NONE ? 1 : 0);
        Due.is(what + ": TURNED", x.rule(4), answer == NONE ? 0 : 1);
    }

    @Sentence(promise = 0, says = "A DOOR LETS one by KIND: token, if it HOLDS more than 0 (it HOLDS 1 less then)")
    static void termsTokenLetsIfItHoldsMoreThan0() {
        lets(0, 9, 9, NONE, 8);
        lets(0, 9, 1, NONE, 0);
        lets(0, 9, 0, 0, 0);
        lets(0, 1, 1, NONE, 0);
        lets(0, 1, 0, 0, 0);
    }

    @Sentence(promise = 0, says = "leak, if it HOLDS less than DEPTH (it HOLDS 1 more then)")
    static void termsLeakLetsIfItHoldsLessThanDepth() {
        lets(1, 9, 0, NONE, 1);
        lets(1, 9, 8, NONE, 9);
        lets(1, 9, 9, 0, 9);
        lets(1, 1, 0, NONE, 1);
        lets(1, 1, 1, 0, 1);
    }

    @Sentence(promise = 0, says = "window as a leak")
    static void termsWindowLetsAsALeak() {
        lets(2, 9, 0, NONE, 1);
        lets(2, 9, 8, NONE, 9);
        lets(2, 9, 9, 0, 9);
        lets(2, 1, 1, 0, 1);
    }

    @Sentence(promise = 0, says = "half as a window.")
    static void termsHalfLetsAsAWindow() {
        lets(3, 9, 0, NONE, 1);
        lets(3, 9, 8, NONE, 9);
        lets(3, 9, 9, 0, 9);
        lets(3, 1, 1, 0, 1);
    }

    // ---- part 1: how a door settles

    /** What a DOOR that HOLDS so much HOLDS behind one TICK, behind two, and so on. */
    private static void settles(int kind, int depth, int rate, int holds, int... due) {
        TokenDoors x = hung(kind, depth, rate, holds);
        for (int n = 0; n < due.length; n++) {
            String what = KINDS[kind] + " " + depth + " " + rate + ", HOLDS " + holds + ", behind TICK " + n;
            Due.is(what + ": ahead", x.ahead(0, 1), due[n]);
            x.ticks(1);
            Due.is(what, x.door(0, 3), due[n]);
        }
    }

    @Sentence(promise = 0, says = "It SETTLES at the end of a TICK by KIND: token HOLDS RATE more (DEPTH at most)")
    static void termsTokenSettlesDepthAtMost() {
        settles(0, 5, 2, 2, 4, 5, 5);
        settles(0, 5, 2, 3, 5, 5);
        settles(0, 5, 2, 5, 5);
        settles(0, 5, 0, 0, 0, 0);
        settles(0, 9, 9, 0, 9, 9);
        settles(0, 1, 9, 0, 1, 1);
    }

    @Sentence(promise = 0, says = "leak RATE less (0 at least)")
    static void termsLeakSettles0AtLeast() {
        settles(1, 9, 2, 3, 1, 0, 0);
        settles(1, 9, 2, 2, 0, 0);
        settles(1, 9, 2, 0, 0);
        settles(1, 9, 0, 9, 9, 9);
        settles(1, 9, 9, 9, 0, 0);
        settles(1, 1, 9, 1, 0, 0);
    }

    @Sentence(promise = 0, says = "window HOLDS 0, if RATE is above 0 and divides the number of the TICK and 1, else what it HOLDS stays")
    static void termsWindowSettlesIfRateDividesTickAnd1() {
        settles(2, 9, 0, 9, 9, 9, 9, 9, 9, 9, 9, 9, 9, 9);
        settles(2, 9, 1, 9, 0);
        settles(2, 9, 2, 9, 9, 0);
        settles(2, 9, 9, 9, 9, 9, 9, 9, 9, 9, 9, 9, 0, 0);
        TokenDoors x = hung(2, 9, 9, 9);
        x.ticks(9);
        x.alter(0, 3, 9);
        Due.is("behind TICK 16", x.ahead(0, 8), 9);
        Due.is("behind TICK 17", x.ahead(0, 9), 0);
    }

    @Sentence(promise = 0, says = "half as a window, but half of it (down) instead of 0.")
    static void termsHalfSettlesDown() {
        settles(3, 9, 1, 9, 4, 2, 1, 0, 0);
        settles(3, 9, 1, 8, 4);
        settles(3, 9, 1, 7, 3);
        settles(3, 9, 1, 1, 0);
        settles(3, 9, 0, 9, 9, 9, 9);
        settles(3, 9, 9, 9, 9, 9, 9, 9, 9, 9, 9, 9, 4, 4);
    }

    // ---- part 2: a tick

    @Sentence(promise = 0, says = "each goes to the DOORS, by order; the first one that does not LET him turns him away (TURNED is 1 more; the DOORS ahead have LET him all the same)")
    static void termsFirstDoorThatDoesNotLetTurnsAway() {
        TokenDoors x = Due.told("leak 9 0;token 1 0;leak 1 0;leak 9 0;crowd 0 3 0;");
        x.alter(2, 3, 1);
        Due.is("ticks(1)", x.ticks(1), 0);
        int[] held = {3, 0, 1, 0};
        for (int d = 0; d < 4; d++) {
            Due.is("door(" + d + ", 3)", x.door(d, 3), held[d]);
        }
        Due.is("LET", x.rule(3), 0);
        Due.is("TURNED", x.rule(4), 3);
    }

    @Sentence(promise = 0, says = "do all LET him, he is LET (1 more; also if there are no DOORS).")
    static void termsLetAlsoIfThereAreNoDoors() {
        TokenDoors x = Due.told("crowd 0 9 0;");
        Due.is("ticks(1) with no DOORS", x.ticks(1), 9);
        Due.is("LET", x.rule(3), 9);
        Due.is("TURNED", x.rule(4), 0);
        TokenDoors y = Due.told("leak 2 0;token 2 0;window 2 0;half 2 0;crowd 0 3 0;");
        Due.is("ticks(1) with four", y.ticks(1), 2);
        Due.is("LET", y.rule(3), 2);
        Due.is("TURNED", y.rule(4), 1);
    }

    @Sentence(promise = 0, says = "Then each DOOR SETTLES. TICK is 1 more.")
    static void termsThenEachDoorSettles() {
        TokenDoors x = Due.told("token 2 2;leak 2 2;window 2 1;half 2 1;crowd 0 9 0;");
        Due.is("ticks(1): none has SETTLED ahead of the last one", x.ticks(1), 2);
        int[] held = {2, 0, 0, 1};
        for (int d = 0; d < 4; d++) {
            Due.is("door(" + d + ", 3)", x.door(d, 3), held[d]);
        }
        Due.is("TICK", x.rule(2), 1);
    }

    @Sentence(promise = 0, says = "(LET, TURNED: 99999 at most.)")
    static void termsLetTurned99999AtMost() throws Exception {
        TokenDoors x = Due.told("leak 1 9;");
        set(x, "let", 99998);
        set(x, "turned", 99998);
        int[] due = {99999, 99999, 99999};
        for (int i = 0; i < due.length; i++) {
            x.pass();
            Due.is("LET behind " + (i + 1), x.rule(3), due[i]);
            x.pass();
            Due.is("TURNED behind " + (i + 1), x.rule(4), due[i]);
            x.alter(0, 3, 0);
        }
        x.come(0, 9, 1);
        Due.is("ticks(2) tells how many all the same", x.ticks(2), 2);
        Due.is("LET", x.rule(3), 99999);
        Due.is("TURNED", x.rule(4), 99999);
        Due.is("runs(2, 0) too", x.runs(2, 0), 2);
        Due.is("runs(2, 1) too", x.runs(2, 1), 16);
    }

    /** 999 TICKS of 72 and 512 calls do not come to 99999, so the count is set from within. */
    private static void set(TokenDoors x, String count, int v) throws Exception {
        Field now = TokenDoors.class.getDeclaredField("now");
        now.setAccessible(true);
        Field held = now.get(x).getClass().getDeclaredField(count);
        held.setAccessible(true);
        held.setInt(now.get(x), v);
    }

    @Sentence(promise = 0, says = "(LET, TURNED: 99999 at most.)")
    static void termsLetTurnedTheMostThatCanBe() {
        TokenDoors x = new TokenDoors();
        TokenDoors y = Due.told("leak 1 0;");
        y.alter(0, 3, 1);
        for (int i = 0; i < 8; i++) {
            x.come(0, 9, 1);
            y.come(0, 9, 1);
        }
        for (int i = 0; i < 9; i++) {
            x.ticks(100);
            y.ticks(100);
        }
        Due.is("ticks(99)", x.ticks(99), 99 * 72);
        Due.is("ticks(99) of a DOOR that LETS nobody", y.ticks(99), 0);
        Due.is("LET", x.rule(3), 71928);
        Due.is("TURNED", y.rule(4), 71928);
    }

    @Sentence(promise = 0, says = "BY TICKS: as it would be from now on; TICK n is the one behind n more (0: this one).")
    static void termsByTicks0IsThisOne() {
        TokenDoors x = Due.told("crowd 3 1 0;crowd 4 2 0;crowd 5 4 0;");
        x.ticks(4);
        Due.is("lets(0)", x.lets(0), 2);
        Due.is("lets(1)", x.lets(1), 4);
        Due.is("runs(0, 0)", x.runs(0, 0), 0);
        Due.is("runs(1, 0)", x.runs(1, 0), 2);
        x.hang(1, 1, 0);
        Due.is("when()", x.when(), 0);
    }

    @Sentence(promise = 0, says = "SEEN (6): in TICK n (0 to 40) from now on v are LET (0 to 72).")
    static void termsSeen6() {
        TokenDoors x = new TokenDoors();
        for (int i = 1; i <= 6; i++) {
            Due.is("see of the " + i + "th", x.see(40, 72), i);
        }
        Due.is("see of a 7th", x.see(0, 0), FULL);
        Due.is("count(0)", x.count(0), 6);
        Edges.bounds("see(#, 0)", v -> new TokenDoors().see(v, 0), 0, 40);
        Edges.bounds("see(0, #)", v -> new TokenDoors().see(0, v), 0, 72);
    }

    @Sentence(promise = 0, says = "SHEETS 0 to 3 are rows of BYTES (lane 0), SHORTS (1), INTS (2) with 0 to 40 CELLS, or nothing (at first).")
    static void termsSheets0To3Of0To40Cells() {
        TokenDoors x = new TokenDoors();
        for (int k = 0; k <= 3; k++) {
            Due.is("lay(" + k + ", 0, 0) at first", x.lay(k, 0, 0), -11);
            Due.is("sheet(" + k + ", 2, 40)", x.sheet(k, 2, 40), 1);
            Due.is("lay(" + k + ", 39, 0)", x.lay(k, 39, 0), 1);
            Due.is("lay(" + k + ", 40, 0)", x.lay(k, 40, 0), -12);
            Due.is("sheet(" + k + ", 1, 0)", x.sheet(k, 1, 0), 1);
            Due.is("lay(" + k + ", 0, 0) of no CELLS", x.lay(k, 0, 0), -12);
        }
        Edges.bounds("sheet(0, #, 1)", lane -> new TokenDoors().sheet(0, lane, 1), 0, 2);
        Due.is("sheet(0, 0, 41)", x.sheet(0, 0, 41), BAD);
        Due.is("sheet(0, 0, -1)", x.sheet(0, 0, -1), -14);
    }

    @Sentence(promise = 0, says = "A FAULT is what the machine finds: 1 NULL (nothing), 2 INDEX, 3 CAST (another lane), 4 SIZE (below 0).")
    static void termsFaults1To4() {
        TokenDoors x = new TokenDoors();
        Due.is("lay of nothing", x.lay(0, 0, 0), -10 - 1);
        x.sheet(0, 0, 3);
        Due.is("lay behind the last CELL", x.lay(0, 3, 0), -10 - 2);
        Due.is("sheet below 0", x.sheet(0, 0, -1), -10 - 4);
        x.read(1, 0, 0, 1);
        Due.is("torn() of nothing", x.torn(), 1);
        x.read(0, 0, 1, 1);
        Due.is("torn() behind the last CELL", x.torn(), 2);
        x.read(0, 1, 0, 1);
        Due.is("torn() of another lane", x.torn(), 3);
    }
}
