/** Boundaries of promises 29 to 34: see, forget, kinds, depths, rates, ask. */
public final class SeenEdgesTest {
    private static final int BAD = TokenDoors.BAD, FULL = TokenDoors.FULL, NONE = TokenDoors.NONE;
    private static final int ALL_KINDS = 15, ALL_DEPTHS = 1022, ALL_RATES = 1023;

    public static void main(String[] args) throws Exception {
        Edges.run(SeenEdgesTest.class);
    }

    // ---- 29: see

    @Sentence(promise = 29, says = "SEEN: in TICK n (0 to 40) v are LET (0 to 72): how many are.")
    static void p29TickAndLet() {
        TokenDoors x = new TokenDoors();
        Due.is("see(0, 0)", x.see(0, 0), 1);
        Due.is("see(40, 72)", x.see(40, 72), 2);
        Due.is("see(0, 72)", x.see(0, 72), 3);
        Due.is("see(40, 0)", x.see(40, 0), 4);
        Due.is("see(0, 0) again", x.see(0, 0), 5);
        Due.is("count(0)", x.count(0), 5);
    }

    @Sentence(promise = 29, says = "BAD; FULL.")
    static void p29Bad() {
        TokenDoors x = new TokenDoors();
        Edges.all("see(#, 0)", n -> x.see(n, 0), BAD, Edges.outside(0, 40));
        Edges.all("see(0, #)", v -> x.see(0, v), BAD, Edges.outside(0, 72));
        Due.is("count(0)", x.count(0), 0);
    }

    @Sentence(promise = 29, says = "BAD; FULL.")
    static void p29FullOfSix() {
        TokenDoors x = Due.told("crowd 0 1 1;leak 9 9;");
        for (int i = 1; i <= 6; i++) {
            Due.is("see of the " + i + "th", x.see(i, 1), i);
        }
        Due.is("see of a 7th", x.see(0, 72), FULL);
        Due.is("see of it again", x.see(0, 72), FULL);
        Due.is("count(0)", x.count(0), 6);
        Due.is("rates(0): the 7th is not SEEN", x.rates(0) & 512, 512);
        Due.is("forget(5)", x.forget(5), 6);
        Due.is("see behind five", x.see(0, 72), 6);
        Due.is("rates(0): now it is", x.rates(0), 0);
    }

    @Sentence(promise = 29, says = "BAD; FULL.")
    static void p29BadAheadOfFull() {
        TokenDoors x = Worlds.packed();
        Due.is("see(-1, 0)", x.see(-1, 0), BAD);
        Due.is("see(41, 0)", x.see(41, 0), BAD);
        Due.is("see(0, -1)", x.see(0, -1), BAD);
        Due.is("see(0, 73)", x.see(0, 73), BAD);
        Due.is("see(40, 72)", x.see(40, 72), FULL);
    }

    // ---- 30: forget

    @Sentence(promise = 30, says = "SEEN are the first n alone: how many there were.")
    static void p30FirstNAlone() {
        for (int were = 0; were <= 6; were++) {
            for (int n = 0; n <= were; n++) {
                TokenDoors x = new TokenDoors();
                for (int i = 0; i < were; i++) {
                    x.see(i, i);
                }
                Due.is("of " + were + " forget(" + n + ")", x.forget(n), were);
                Due.is("count(0)", x.count(0), n);
            }
        }
        TokenDoors y = Due.told("window 5 1;crowd 0 9 1;");
        y.see(0, 5);
        y.see(0, 4);
        Due.is("depths(0) against itself", y.depths(0), 0);
        y.forget(1);
        Due.is("depths(0) by the first alone", y.depths(0), 1 << 5);
        y.forget(0);
        Due.is("depths(0) by none", y.depths(0), ALL_DEPTHS);
    }

    @Sentence(promise = 30, says = "BAD.")
    static void p30Bad() {
        TokenDoors x = new TokenDoors();
        for (int were = 0; were <= 6; were++) {
            Edges.all("of " + were + " forget(#)", x::forget, BAD, Edges.outside(0, were));
            Edges.all("of " + were + " forget(#)", x::forget, BAD, 7);
            Due.is("count(0)", x.count(0), were);
            x.see(0, 0);
        }
    }

    // ---- 31: kinds

    @Sentence(promise = 31, says = "KINDS of a DOOR (bits) by which, all else as it is, all is as SEEN.")
    static void p31NoneAndAll() {
        TokenDoors x = Due.told("leak 3 1;crowd 0 9 0;crowd 40 9 0;");
        Due.is("nothing is SEEN", x.kinds(0), ALL_KINDS);
        x.see(1, 0);
        Due.is("nobody comes", x.kinds(0), ALL_KINDS);
        x.see(40, 3);
        Due.is("TICK 40: half is emptied in time too", x.kinds(0), ALL_KINDS);
        x.see(0, 3);
        Due.is("a token would HOLD nothing", x.kinds(0), ALL_KINDS - 1);
        x.see(0, 0);
        Due.is("none is both", x.kinds(0), 0);
        x.forget(0);
        x.see(40, 72);
        Due.is("none LETS so many", x.kinds(0), 0);
    }

    @Sentence(promise = 31, says = "KINDS of a DOOR (bits) by which, all else as it is, all is as SEEN.")
    static void p31Bits0To3() {
        // Nine come in TICK 0 and TICK 1; it HOLDS 2 of 9, its RATE is 1.
        TokenDoors x = Due.told("leak 9 1;crowd 0 9 1;");
        x.alter(0, 3, 2);
        int[][] due = {{2, 1, 1}, {7, 1, 2}, {7, 9, 4}, {7, 5, 8}};
        for (int[] d : due) {
            x.see(0, d[0]);
            x.see(1, d[1]);
            Due.is("of " + d[0] + " and " + d[1], x.kinds(0), d[2]);
            x.forget(0);
        }
    }

    @Sentence(promise = 31, says = "BAD.")
    static void p31Bad() {
        TokenDoors x = Worlds.some();
        Edges.bounds("kinds(#)", x::kinds, 0, 1);
        Due.is("kinds(0) with no DOORS", new TokenDoors().kinds(0), BAD);
    }

    // ---- 32: depths

    @Sentence(promise = 32, says = "DEPTHS of a DOOR (bits 1 to 9; as by alter()) by which, all else as it is, all is as SEEN.")
    static void p32Bits1To9() {
        for (int v = 0; v <= 10; v++) {
            TokenDoors x = Due.told("window 5 1;crowd 0 9 1;crowd 40 1 0;");
            Due.is("nothing is SEEN", x.depths(0), ALL_DEPTHS);
            x.see(40, v);
            Due.is("see(40, " + v + ")", x.depths(0), v >= 1 && v <= 9 ? 1 << v : 0);
        }
        TokenDoors y = Due.told("window 5 1;crowd 0 4 0;");
        y.see(0, 4);
        Due.is("4 to 9", y.depths(0), 1008);
        y.forget(0);
        y.see(40, 0);
        Due.is("nobody comes", y.depths(0), ALL_DEPTHS);
    }

    @Sentence(promise = 32, says = "as by alter()")
    static void p32AsByAlter() {
        TokenDoors x = Due.told("token 9 0;crowd 0 9 0;");
        x.alter(0, 3, 4);
        x.see(0, 4);
        Due.is("a token that HOLDS four", x.depths(0), 1008);
        x.forget(0);
        x.see(0, 1);
        Due.is("what it HOLDS is DEPTH at most then", x.depths(0), 2);
        TokenDoors y = Due.told("leak 9 0;crowd 0 9 0;");
        y.alter(0, 3, 4);
        y.see(0, 0);
        Due.is("a leak that HOLDS four", y.depths(0), 2 + 4 + 8 + 16);
    }

    @Sentence(promise = 32, says = "BAD.")
    static void p32Bad() {
        TokenDoors x = Worlds.some();
        Edges.bounds("depths(#)", x::depths, 0, 1);
        Due.is("depths(0) with no DOORS", new TokenDoors().depths(0), BAD);
    }

    // ---- 33: rates

    @Sentence(promise = 33, says = "RATES of a DOOR (bits 0 to 9) by which, all else as it is, all is as SEEN.")
    static void p33Bits0To9() {
        for (int v = 0; v <= 10; v++) {
            TokenDoors x = Due.told("token 9 5;crowd 39 9 1;");
            Due.is("nothing is SEEN", x.rates(0), ALL_RATES);
            x.see(40, v);
            Due.is("see(40, " + v + ")", x.rates(0), v <= 9 ? 1 << v : 0);
        }
        TokenDoors y = Due.told("token 9 5;crowd 0 9 0;crowd 1 4 0;");
        y.see(1, 4);
        Due.is("4 to 9", y.rates(0), 1008);
        y.forget(0);
        y.see(40, 0);
        Due.is("nobody comes", y.rates(0), ALL_RATES);
    }

    @Sentence(promise = 33, says = "BAD.")
    static void p33Bad() {
        TokenDoors x = Worlds.some();
        Edges.bounds("rates(#)", x::rates, 0, 1);
        Due.is("rates(0) with no DOORS", new TokenDoors().rates(0), BAD);
    }

    // ---- 34: ask

    private static void ask(TokenDoors x, int tick, int left) {
        Due.is("ask(0, 0)", x.ask(0, 0), tick);
        Due.is("ask(0, 1)", x.ask(0, 1), left);
    }

    @Sentence(promise = 34, says = "The TICK (0 to 40) in which to count how many are LET")
    static void p34Tick0To40() {
        // A full leak LETS in the second TICK with nine as many as have leaked: RATE times TICK, nine at most.
        int[][] due = {{1, 1}, {2, 5}, {39, 9}, {40, 9}};
        for (int[] d : due) {
            ask(Due.told("leak 9 5;crowd 0 9 0;crowd " + d[0] + " 9 0;"), d[0], d[1]);
        }
        ask(Due.told("leak 9 5;crowd 0 9 0;crowd 41 9 0;"), NONE, NONE);
        // A full window LETS in a TICK that its RATE divides: in TICK 12 five RATES do, five do not.
        TokenDoors x = Due.told("window 9 5;crowd 0 9 1;");
        ask(x, 12, 5);
        x.ticks(7);
        ask(x, 5, 5);
    }

    @Sentence(promise = 34, says = "so that of rates() of a DOOR fewest are left at the worst, fewer than now")
    static void p34FewerThanNow() {
        TokenDoors x = Due.told("token 9 5;crowd 0 9 1;");
        for (int rate = 0; rate <= 9; rate++) {
            x.forget(0);
            ask(x, 1, 1);
            x.see(1, rate);
            Due.is("rates(0): one", x.rates(0), 1 << rate);
            ask(x, NONE, NONE);
        }
        x.see(1, 6);
        Due.is("rates(0): none", x.rates(0), 0);
        ask(x, NONE, NONE);
        TokenDoors y = Due.told("token 9 5;crowd 0 9 0;crowd 5 1 0;");
        Due.is("rates(0): ten", y.rates(0), ALL_RATES);
        ask(y, 5, 9);
        y.see(5, 1);
        Due.is("rates(0): nine that are alike", y.rates(0), ALL_RATES - 1);
        ask(y, NONE, NONE);
        y.forget(0);
        y.see(5, 0);
        Due.is("rates(0): one", y.rates(0), 1);
        ask(y, NONE, NONE);
    }

    @Sentence(promise = 34, says = "the first (what 0), how many these are (1).")
    static void p34TheFirst() {
        TokenDoors x = Due.told("token 9 5;crowd 0 9 0;crowd 3 1 0;crowd 6 1 0;");
        ask(x, 3, 9);
        TokenDoors y = Due.told("token 9 5;crowd 0 9 0;crowd 3 1 0;crowd 6 2 0;crowd 9 9 0;");
        // TICKS 3 and 6 part RATE 0 alone from all others; in TICK 9 RATE 1 has but six tokens.
        ask(y, 9, 8);
        TokenDoors z = Due.told("token 9 5;crowd 0 9 0;crowd 3 1 0;crowd 4 9 0;");
        // TICK 4: RATE 0 none, 1 three, 2 seven, 3 to 9 nine.
        ask(z, 4, 7);
    }

    @Sentence(promise = 34, says = "NONE: none.")
    static void p34NoneNone() {
        ask(Due.told("token 9 5;"), NONE, NONE);
        ask(Due.told("token 9 5;crowd 0 9 0;"), NONE, NONE);
        ask(Due.told("token 9 5;leak 1 0;crowd 0 9 1;"), NONE, NONE);
    }

    @Sentence(promise = 34, says = "BAD; NONE: none.")
    static void p34Bad() {
        TokenDoors x = Due.told("token 9 5;leak 9 9;crowd 0 9 1;");
        Edges.bounds("ask(#, 0)", d -> x.ask(d, 0), 0, 1);
        Edges.bounds("ask(0, #)", what -> x.ask(0, what), 0, 1);
        x.see(0, 72);
        Due.is("ask(0, 0)", x.ask(0, 0), NONE);
        Due.is("ask(0, 2): BAD is ahead of NONE", x.ask(0, 2), BAD);
        Due.is("ask(0, 0) with no DOORS", new TokenDoors().ask(0, 0), BAD);
    }
}
