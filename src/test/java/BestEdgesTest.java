/** Boundaries of promises 21 to 26: depth, rate, swap, open, kind, fill. */
public final class BestEdgesTest {
    private static final int BAD = TokenDoors.BAD, NONE = TokenDoors.NONE;

    public static void main(String[] args) throws Exception {
        Edges.run(BestEdgesTest.class);
    }

    // ---- 21: depth

    @Sentence(promise = 21, says = "The least DEPTH of a DOOR (as by alter()) by which it turns nobody away in n TICKS (0 to 100).")
    static void p21LeastDepth1To9() {
        for (int many = 1; many <= 9; many++) {
            for (int depth = 1; depth <= 9; depth += 8) {
                TokenDoors x = Due.told("window " + depth + " 1;crowd 0 " + many + " 1;");
                Due.is(many + " come: depth(0, 0)", x.depth(0, 0), 1);
                Due.is(many + " come: depth(0, 1)", x.depth(0, 1), many);
                Due.is(many + " come: depth(0, 100)", x.depth(0, 100), many);
            }
        }
        TokenDoors y = Due.told("window 9 1;crowd 99 5 0;");
        Due.is("depth(0, 99)", y.depth(0, 99), 1);
        Due.is("depth(0, 100): the last TICK counts", y.depth(0, 100), 5);
    }

    @Sentence(promise = 21, says = "(as by alter())")
    static void p21AsByAlter() {
        TokenDoors x = Due.told("token 3 0;crowd 0 3 0;");
        Due.is("what a token HOLDS is DEPTH at most then", x.depth(0, 1), 3);
        x.alter(0, 1, 9);
        Due.is("a greater DEPTH gives it nothing", x.depth(0, 1), 3);
        x.come(0, 1, 0);
        Due.is("four come", x.depth(0, 1), NONE);
        TokenDoors y = Due.told("leak 9 0;crowd 0 1 0;");
        y.alter(0, 3, 8);
        Due.is("what a leak HOLDS is DEPTH at most then, so that it LETS nobody", y.depth(0, 1), 9);
        y.alter(0, 3, 9);
        Due.is("a full one", y.depth(0, 1), NONE);
    }

    @Sentence(promise = 21, says = "by which it turns nobody away")
    static void p21OthersMayTurnAway() {
        TokenDoors x = Due.told("window 2 1;window 9 1;window 1 1;crowd 0 9 1;");
        Due.is("depth(0, 100)", x.depth(0, 100), 9);
        Due.is("depth(1, 100): two reach it", x.depth(1, 100), 2);
        Due.is("depth(2, 100)", x.depth(2, 100), 2);
    }

    @Sentence(promise = 21, says = "NONE: by none.")
    static void p21NoneByNone() {
        Due.is("nine come", Due.told("leak 1 0;crowd 0 9 0;").depth(0, 100), 9);
        Due.is("ten come", Due.told("leak 1 0;crowd 0 9 0;crowd 99 1 0;").depth(0, 100), NONE);
        Due.is("ten come, nine of them in 99 TICKS", Due.told("leak 1 0;crowd 0 9 0;crowd 99 1 0;").depth(0, 99), 9);
    }

    @Sentence(promise = 21, says = "BAD; NONE: by none.")
    static void p21Bad() {
        TokenDoors x = Due.told("leak 1 0;window 1 1;crowd 0 9 1;");
        Edges.bounds("depth(#, 100)", d -> x.depth(d, 100), 0, 1);
        Edges.bounds("depth(0, #): BAD is ahead of NONE", n -> x.depth(0, n), 0, 100);
        Due.is("depth(0, 0) with no DOORS", new TokenDoors().depth(0, 0), BAD);
    }

    // ---- 22: rate

    @Sentence(promise = 22, says = "The least RATE of a DOOR by which it turns nobody away in n TICKS (0 to 100).")
    static void p22LeastRate0To9() {
        for (int many = 1; many <= 9; many++) {
            for (int rate = 0; rate <= 9; rate += 9) {
                TokenDoors x = Due.told("token " + many + " " + rate + ";crowd 0 " + many + " 1;");
                Due.is(many + " come: rate(0, 0)", x.rate(0, 0), 0);
                Due.is(many + " come: rate(0, 1)", x.rate(0, 1), 0);
                Due.is(many + " come: rate(0, 2)", x.rate(0, 2), many);
                Due.is(many + " come: rate(0, 100)", x.rate(0, 100), many);
            }
        }
        TokenDoors y = Due.told("leak 9 9;crowd 0 9 0;crowd 99 1 0;");
        Due.is("rate(0, 99)", y.rate(0, 99), 0);
        Due.is("rate(0, 100): the last TICK counts", y.rate(0, 100), 1);
    }

    @Sentence(promise = 22, says = "The least RATE of a DOOR by which it turns nobody away in n TICKS (0 to 100).")
    static void p22LeastThoughAGreaterOneRefuses() {
        TokenDoors x = Due.told("window 2 0;crowd 0 1 1;");
        Due.is("a window is emptied most often by 1", x.rate(0, 100), 1);
        x.alter(0, 1, 9);
        Due.is("nine are LET without", x.rate(0, 9), 0);
        Due.is("ten are not", x.rate(0, 10), 1);
    }

    @Sentence(promise = 22, says = "NONE: by none.")
    static void p22NoneByNone() {
        TokenDoors x = Due.told("leak 9 0;crowd 0 9 1;");
        Due.is("nine in each TICK", x.rate(0, 100), 9);
        x.come(99, 1, 0);
        Due.is("ten in the last one", x.rate(0, 100), NONE);
        Due.is("ten in the one behind", x.rate(0, 99), 9);
    }

    @Sentence(promise = 22, says = "BAD; NONE: by none.")
    static void p22Bad() {
        TokenDoors x = Due.told("leak 1 0;window 1 1;crowd 0 9 1;");
        Edges.bounds("rate(#, 100)", d -> x.rate(d, 100), 0, 1);
        Edges.bounds("rate(0, #): BAD is ahead of NONE", n -> x.rate(0, n), 0, 100);
        Due.is("rate(0, 0) with no DOORS", new TokenDoors().rate(0, 0), BAD);
    }

    // ---- 23: swap

    @Sentence(promise = 23, says = "Two DOORS that are to change places (all of them) so that most are LET in n TICKS (0 to 100)")
    static void p23InTicks0To100() {
        // In TICK 98 the token LETS all four, unless the window stands ahead of it.
        TokenDoors x = Due.told("token 4 0;window 2 1;crowd 98 4 0;crowd 99 4 0;");
        Due.is("swap(0, 0)", x.swap(0, 0), NONE);
        Due.is("swap(99, 0): two either way", x.swap(99, 0), NONE);
        Due.is("swap(100, 0)", x.swap(100, 0), 1);
        Due.is("swap(100, 1)", x.swap(100, 1), 4);
    }

    @Sentence(promise = 23, says = "10 times the lesser and the greater")
    static void p23TenTimesTheLesserAndTheGreater() {
        // A token of four LETS all of them in TICK 0, unless the window, two in each TICK, stands ahead of it.
        swaps("token 4 0;window 2 1;window 9 1;window 9 1;crowd 0 4 1;", 2, 1, 4);
        swaps("token 4 0;window 9 1;window 2 1;window 9 1;crowd 0 4 1;", 2, 2, 4);
        swaps("token 4 0;window 9 1;window 9 1;window 2 1;crowd 0 4 1;", 2, 3, 4);
        // The leak or window of RATE 0 LETS three in all: one of them is lost in TICK 2, when the window of RATE 3
        // has its two, unless that stands ahead; if that stands ahead of a leak of one in each TICK, others are lost.
        swaps("leak 1 1;leak 3 0;window 2 3;leak 1 3;crowd 0 2 1;", 5, 12, 3);
        swaps("leak 1 1;window 3 0;token 1 3;window 2 3;crowd 0 2 1;", 5, 13, 3);
        swaps("leak 2 1;leak 1 3;window 3 0;window 2 3;crowd 0 2 1;", 4, 23, 3);
    }

    private static void swaps(String text, int n, int two, int many) {
        TokenDoors x = Due.told(text);
        Due.is(text + " swap(" + n + ", 0)", x.swap(n, 0), two);
        Due.is(text + " swap(" + n + ", 1)", x.swap(n, 1), many);
    }

    @Sentence(promise = 23, says = "(all of them)")
    static void p23AllOfTheDoors() {
        TokenDoors x = Due.told("token 9 0;window 1 1;crowd 0 3 1;");
        x.alter(0, 3, 4);
        Due.is("what they HOLD goes along: swap(9, 1)", x.swap(9, 1), 4);
        Due.is("as it is", x.runs(9, 0), 2);
        x.alter(1, 3, 1);
        Due.is("swap(1, 0): the window HOLDS 1 wherever it stands", x.swap(1, 0), NONE);
    }

    @Sentence(promise = 23, says = "more than as it is")
    static void p23MoreThanAsItIs() {
        TokenDoors x = Due.told("token 2 0;window 2 1;crowd 0 4 1;");
        Due.is("as many: swap(100, 0)", x.swap(100, 0), NONE);
        Due.is("as many: swap(100, 1)", x.swap(100, 1), NONE);
        x.alter(0, 1, 3);
        x.alter(0, 3, 3);
        Due.is("one more: swap(100, 0)", x.swap(100, 0), 1);
        Due.is("one more: swap(100, 1)", x.swap(100, 1), 3);
        TokenDoors y = Due.told("window 2 1;token 3 0;crowd 0 4 1;");
        Due.is("fewer: swap(100, 0)", y.swap(100, 0), NONE);
    }

    @Sentence(promise = 23, says = "of several the least (what 0), how many (1).")
    static void p23OfSeveralTheLeast() {
        TokenDoors x = Due.told("token 4 0;token 4 0;window 2 1;window 2 1;crowd 0 4 0;crowd 1 4 0;");
        Due.is("no one swap brings a window ahead of both tokens but with the first", x.swap(2, 0), 2);
        Due.is("how many", x.swap(2, 1), 4);
        TokenDoors y = Due.told("token 4 0;window 2 1;window 2 1;window 2 1;crowd 0 4 0;crowd 1 4 0;");
        Due.is("1, 2, 3 are alike", y.swap(2, 0), 1);
        TokenDoors z = Due.told("window 9 1;token 4 0;window 9 1;window 2 1;crowd 0 4 0;crowd 1 4 0;");
        Due.is("3 and 13 are alike", z.swap(2, 0), 3);
    }

    @Sentence(promise = 23, says = "NONE: by none.")
    static void p23NoneByNone() {
        for (int what = 0; what <= 1; what++) {
            Due.is("no DOORS", Due.told("crowd 0 9 1;").swap(100, what), NONE);
            Due.is("one DOOR", Due.told("leak 1 0;crowd 0 9 1;").swap(100, what), NONE);
            Due.is("two alike", Due.told("leak 1 1;leak 1 1;crowd 0 9 1;").swap(100, what), NONE);
            Due.is("nobody comes", Due.told("token 4 0;window 2 1;").swap(100, what), NONE);
        }
    }

    @Sentence(promise = 23, says = "BAD; NONE: by none.")
    static void p23Bad() {
        TokenDoors x = Due.told("token 4 0;window 2 1;crowd 0 4 1;");
        Edges.bounds("swap(#, 0)", n -> x.swap(n, 0), 0, 100);
        Edges.bounds("swap(100, #)", what -> x.swap(100, what), 0, 1);
        Due.is("swap(0, 2): BAD is ahead of NONE", x.swap(0, 2), BAD);
    }

    // ---- 24: open

    @Sentence(promise = 24, says = "The DOOR that had better stand open (it LETS all, HOLDS what it HOLDS) so that most are LET in n TICKS (0 to 100)")
    static void p24InTicks0To100() {
        for (int d = 0; d <= 3; d++) {
            StringBuilder text = new StringBuilder();
            for (int e = 0; e <= 3; e++) {
                text.append(e == d ? "window 8 1;" : "window 9 1;");
            }
            TokenDoors x = Due.told(text + "crowd 99 9 0;");
            Due.is(text + " open(0, 0)", x.open(0, 0), NONE);
            Due.is(text + " open(99, 0)", x.open(99, 0), NONE);
            Due.is(text + " open(100, 0)", x.open(100, 0), d);
            Due.is(text + " open(100, 1)", x.open(100, 1), 9);
        }
    }

    @Sentence(promise = 24, says = "(it LETS all, HOLDS what it HOLDS)")
    static void p24LetsAll() {
        TokenDoors x = Due.told("leak 1 0;");
        x.alter(0, 3, 1);
        for (int i = 0; i < 8; i++) {
            x.come(0, 9, 1);
        }
        Due.is("open(100, 0)", x.open(100, 0), 0);
        Due.is("open(100, 1) of the most", x.open(100, 1), 7200);
        Due.is("door(0, 3): it is open in thought alone", x.door(0, 3), 1);
        Due.is("runs(100, 0)", x.runs(100, 0), 0);
    }

    @Sentence(promise = 24, says = "more than as it is")
    static void p24MoreThanAsItIs() {
        TokenDoors x = Due.told("window 5 1;window 5 1;crowd 0 9 1;");
        Due.is("as many", x.open(100, 0), NONE);
        x.alter(0, 1, 4);
        Due.is("one more in each", x.open(100, 0), 0);
        Due.is("how many", x.open(100, 1), 500);
        Due.is("how many in one", x.open(1, 1), 5);
    }

    @Sentence(promise = 24, says = "of several the first (what 0), how many (1).")
    static void p24OfSeveralTheFirst() {
        // In TICK 0 DOOR 0 refuses one, in TICK 1 DOOR 1 refuses one: opening either gains one.
        TokenDoors x = Due.told("leak 4 1;window 3 1;crowd 0 4 0;crowd 2 5 2;");
        Due.is("open(4, 0)", x.open(4, 0), 0);
        Due.is("open(4, 1)", x.open(4, 1), 6);
        Due.is("as it is", x.runs(4, 0), 5);
        TokenDoors y = Due.told("window 9 1;leak 4 1;window 3 1;crowd 0 4 0;crowd 2 5 2;");
        Due.is("open(4, 0) behind one that refuses nobody", y.open(4, 0), 1);
    }

    @Sentence(promise = 24, says = "NONE: none.")
    static void p24NoneNone() {
        for (int what = 0; what <= 1; what++) {
            Due.is("no DOORS", Due.told("crowd 0 9 1;").open(100, what), NONE);
            Due.is("nobody comes", Due.told("leak 1 0;").open(100, what), NONE);
            Due.is("nobody is refused", Due.told("window 9 1;crowd 0 9 1;").open(100, what), NONE);
            Due.is("no TICKS", Due.told("leak 1 0;crowd 0 9 1;").open(0, what), NONE);
        }
    }

    @Sentence(promise = 24, says = "BAD; NONE: none.")
    static void p24Bad() {
        TokenDoors x = Due.told("token 4 0;window 2 1;crowd 0 4 1;");
        Edges.bounds("open(#, 0)", n -> x.open(n, 0), 0, 100);
        Edges.bounds("open(100, #)", what -> x.open(100, what), 0, 1);
        Due.is("open(0, 2): BAD is ahead of NONE", x.open(0, 2), BAD);
    }

    // ---- 25: kind

    @Sentence(promise = 25, says = "The KIND of a DOOR by which most are LET in n TICKS (0 to 100)")
    static void p25InTicks0To100() {
        // By TICK 99 the token has its nine; the others HOLD nothing, so they LET nine too.
        TokenDoors x = Due.told("leak 9 1;crowd 0 1 0;crowd 99 9 0;");
        Due.is("kind(0, 0, 0)", x.kind(0, 0, 0), 0);
        Due.is("kind(0, 0, 1)", x.kind(0, 0, 1), 0);
        Due.is("kind(0, 1, 0): a token would HOLD nothing", x.kind(0, 1, 0), 1);
        Due.is("kind(0, 1, 1)", x.kind(0, 1, 1), 1);
        Due.is("kind(0, 99, 1)", x.kind(0, 99, 1), 1);
        Due.is("kind(0, 100, 0)", x.kind(0, 100, 0), 1);
        Due.is("kind(0, 100, 1)", x.kind(0, 100, 1), 10);
    }

    @Sentence(promise = 25, says = "The KIND of a DOOR by which most are LET in n TICKS (0 to 100)")
    static void p25Kind0To3() {
        TokenDoors x = Due.told("leak 4 0;crowd 0 9 0;");
        x.alter(0, 3, 4);
        Due.is("token", x.kind(0, 1, 0), 0);
        TokenDoors y = Due.told("token 4 1;crowd 0 4 0;crowd 1 1 1;");
        y.alter(0, 3, 0);
        Due.is("leak", y.kind(0, 3, 0), 1);
        TokenDoors z = Due.told("token 4 1;crowd 0 9 1;");
        z.alter(0, 3, 0);
        Due.is("window", z.kind(0, 3, 0), 2);
        Due.is("window: how many", z.kind(0, 3, 1), 12);
        // RATE 3 takes 3 of 8 from a leak, which LETS 1 + 3; a window LETS 1 + 9; half LETS 1 + 5.
        TokenDoors w = Due.told("half 9 3;crowd 0 1 0;crowd 3 9 0;");
        w.alter(0, 3, 8);
        Due.is("half is never better than a window", w.kind(0, 4, 1), 8 + 2);
    }

    @Sentence(promise = 25, says = "of several the first (what 0), how many (1).")
    static void p25OfSeveralTheFirst() {
        TokenDoors x = Due.told("half 9 9;crowd 0 3 0;");
        Due.is("leak, window, half are alike", x.kind(0, 1, 0), 1);
        x.alter(0, 3, 4);
        Due.is("all are alike", x.kind(0, 1, 0), 0);
        Due.is("how many", x.kind(0, 1, 1), 3);
        x.leave(0);
        Due.is("nobody comes", x.kind(0, 100, 0), 0);
        Due.is("nobody comes: how many", x.kind(0, 100, 1), 0);
    }

    @Sentence(promise = 25, says = "BAD.")
    static void p25Bad() {
        TokenDoors x = Due.told("token 4 0;window 2 1;crowd 0 4 1;");
        Edges.bounds("kind(#, 0, 0)", d -> x.kind(d, 0, 0), 0, 1);
        Edges.bounds("kind(1, #, 0)", n -> x.kind(1, n, 0), 0, 100);
        Edges.bounds("kind(1, 100, #)", what -> x.kind(1, 100, what), 0, 1);
        Due.is("kind(0, 0, 0) with no DOORS", new TokenDoors().kind(0, 0, 0), BAD);
    }

    // ---- 26: fill

    @Sentence(promise = 26, says = "What a DOOR had better HOLD now (0 to DEPTH) so that most are LET in n TICKS (0 to 100)")
    static void p26Hold0ToDepth() {
        for (int depth = 1; depth <= 9; depth++) {
            TokenDoors x = Due.told("token " + depth + " 0;crowd 0 9 1;");
            x.alter(0, 3, 0);
            Due.is("token: fill(0, 1, 0)", x.fill(0, 1, 0), depth);
            Due.is("token: fill(0, 100, 0)", x.fill(0, 100, 0), depth);
            Due.is("token: fill(0, 100, 1)", x.fill(0, 100, 1), depth);
            TokenDoors y = Due.told("leak " + depth + " 0;crowd 0 9 1;");
            y.alter(0, 3, depth);
            Due.is("leak: fill(0, 1, 0)", y.fill(0, 1, 0), 0);
            Due.is("leak: fill(0, 100, 1)", y.fill(0, 100, 1), depth);
        }
    }

    @Sentence(promise = 26, says = "in n TICKS (0 to 100)")
    static void p26InTicks0To100() {
        TokenDoors x = Due.told("token 9 0;crowd 99 6 0;");
        Due.is("fill(0, 0, 0)", x.fill(0, 0, 0), 0);
        Due.is("fill(0, 0, 1)", x.fill(0, 0, 1), 0);
        Due.is("fill(0, 99, 0)", x.fill(0, 99, 0), 0);
        Due.is("fill(0, 100, 0)", x.fill(0, 100, 0), 6);
        Due.is("fill(0, 100, 1)", x.fill(0, 100, 1), 6);
    }

    @Sentence(promise = 26, says = "of several the least (what 0), how many (1).")
    static void p26OfSeveralTheLeast() {
        TokenDoors x = Due.told("token 9 0;leak 4 0;crowd 0 6 0;");
        Due.is("4 to 9 are alike", x.fill(0, 1, 0), 4);
        Due.is("how many", x.fill(0, 1, 1), 4);
        x.leave(0);
        Due.is("nobody comes", x.fill(0, 100, 0), 0);
        Due.is("nobody comes: how many", x.fill(0, 100, 1), 0);
        Due.is("door(0, 3): it HOLDS what it does", x.door(0, 3), 9);
    }

    @Sentence(promise = 26, says = "BAD.")
    static void p26Bad() {
        TokenDoors x = Due.told("token 4 0;window 2 1;crowd 0 4 1;");
        Edges.bounds("fill(#, 0, 0)", d -> x.fill(d, 0, 0), 0, 1);
        Edges.bounds("fill(1, #, 0)", n -> x.fill(1, n, 0), 0, 100);
        Edges.bounds("fill(1, 100, #)", what -> x.fill(1, 100, what), 0, 1);
        Due.is("fill(0, 0, 0) with no DOORS", new TokenDoors().fill(0, 0, 0), BAD);
    }
}
