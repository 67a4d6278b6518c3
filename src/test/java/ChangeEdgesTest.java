/** Boundaries of promises 9 to 14: alter, hang, cut, come, leave, pass. */
public final class ChangeEdgesTest {
    private static final int BAD = TokenDoors.BAD, STATE = TokenDoors.STATE, FULL = TokenDoors.FULL, NONE = TokenDoors.NONE;

    public static void main(String[] args) throws Exception {
        Edges.run(ChangeEdgesTest.class);
    }

    private static TokenDoors hung(int kind, int depth, int rate) {
        TokenDoors x = new TokenDoors();
        x.hang(kind, depth, rate);
        return x;
    }

    // ---- 9: alter

    @Sentence(promise = 9, says = "KIND, DEPTH, RATE, what it HOLDS (what 0 to 3) of a DOOR becomes v")
    static void p09BecomesV() {
        int[] least = {0, 1, 0, 0};
        int[] most = {3, 9, 9, 9};
        TokenDoors x = hung(1, 9, 5);
        for (int what = 0; what <= 3; what++) {
            for (int v = least[what]; v <= most[what]; v++) {
                int was = x.door(0, what);
                Due.is("alter(0, " + what + ", " + v + ")", x.alter(0, what, v), was);
                Due.is("door(0, " + what + ")", x.door(0, what), v);
            }
        }
    }

    @Sentence(promise = 9, says = "what it was.")
    static void p09WhatItWas() {
        TokenDoors x = Due.told("leak 4 3;half 9 9;");
        x.alter(1, 3, 9);
        int[] was = {3, 9, 9, 9};
        int[] v = {0, 9, 0, 0};
        for (int what = 0; what <= 3; what++) {
            Due.is("alter(1, " + what + ", " + v[what] + ")", x.alter(1, what, v[what]), was[what]);
            Due.is("alter of the same again", x.alter(1, what, v[what]), v[what]);
        }
        Due.is("door(0, 0): the other is as it was", x.door(0, 0), 1);
        Due.is("door(0, 1)", x.door(0, 1), 4);
        Due.is("door(0, 2)", x.door(0, 2), 3);
        Due.is("door(0, 3)", x.door(0, 3), 0);
    }

    @Sentence(promise = 9, says = "(what it HOLDS is DEPTH at most then)")
    static void p09HoldsDepthAtMostThen() {
        for (int kind = 0; kind <= 3; kind++) {
            for (int holds = 0; holds <= 9; holds++) {
                TokenDoors x = hung(kind, 9, 1);
                x.alter(0, 3, holds);
                for (int depth = 9; depth >= 1; depth--) {
                    x.alter(0, 1, depth);
                    Due.is("KIND " + kind + ": door(0, 3)", x.door(0, 3), Math.min(holds, depth));
                }
                x.alter(0, 1, 9);
                Due.is("KIND " + kind + ": a greater DEPTH gives nothing back", x.door(0, 3), Math.min(holds, 1));
            }
        }
    }

    @Sentence(promise = 9, says = "KIND, DEPTH, RATE, what it HOLDS (what 0 to 3) of a DOOR becomes v")
    static void p09WhatItHoldsStaysByKindAndRate() {
        for (int holds = 0; holds <= 5; holds++) {
            TokenDoors x = hung(0, 5, 1);
            x.alter(0, 3, holds);
            for (int kind = 3; kind >= 0; kind--) {
                x.alter(0, 0, kind);
                x.alter(0, 2, 9 - kind);
                Due.is("door(0, 3)", x.door(0, 3), holds);
            }
        }
    }

    @Sentence(promise = 9, says = "BAD; STATE: it would HOLD more than DEPTH (what 3).")
    static void p09Bad() {
        TokenDoors x = Due.told("leak 4 3;half 9 9;");
        String before = Due.state(x);
        Edges.all("alter(#, 0, 0)", d -> x.alter(d, 0, 0), BAD, Edges.outside(0, 1));
        Edges.all("alter(0, #, 1)", what -> x.alter(0, what, 1), BAD, Edges.outside(0, 3));
        Edges.all("alter(0, 0, #)", v -> x.alter(0, 0, v), BAD, Edges.outside(0, 3));
        Edges.all("alter(0, 1, #)", v -> x.alter(0, 1, v), BAD, Edges.outside(1, 9));
        Edges.all("alter(0, 2, #)", v -> x.alter(0, 2, v), BAD, Edges.outside(0, 9));
        Edges.all("alter(0, 3, #)", v -> x.alter(0, 3, v), BAD, Edges.outside(0, 9));
        Edges.all("alter(1, 3, #)", v -> x.alter(1, 3, v), BAD, Edges.outside(0, 9));
        Due.holds("nothing changes", Due.state(x).equals(before));
        Due.is("alter with no DOORS", new TokenDoors().alter(0, 0, 0), BAD);
    }

    @Sentence(promise = 9, says = "STATE: it would HOLD more than DEPTH (what 3).")
    static void p09StateItWouldHoldMoreThanDepth() {
        for (int depth = 1; depth <= 9; depth++) {
            TokenDoors x = hung(2, depth, 0);
            for (int v = 0; v <= 9; v++) {
                int was = x.door(0, 3);
                Due.is("DEPTH " + depth + ": alter(0, 3, " + v + ")", x.alter(0, 3, v), v > depth ? STATE : was);
                Due.is("door(0, 3)", x.door(0, 3), Math.min(v, depth));
            }
            Due.is("DEPTH " + depth + ": alter(0, 3, 10)", x.alter(0, 3, 10), BAD);
        }
    }

    @Sentence(promise = 9, says = "BAD; STATE: it would HOLD more than DEPTH (what 3).")
    static void p09BadAheadOfState() {
        TokenDoors x = hung(1, 3, 0);
        Due.is("alter(0, 3, 4)", x.alter(0, 3, 4), STATE);
        Due.is("alter(1, 3, 4): no such DOOR", x.alter(1, 3, 4), BAD);
        Due.is("alter(0, 4, 4): no such what", x.alter(0, 4, 4), BAD);
        Due.is("alter(0, 3, 10): no number that is HELD", x.alter(0, 3, 10), BAD);
        Due.is("alter(0, 3, 9)", x.alter(0, 3, 9), STATE);
    }

    // ---- 10: hang

    @Sentence(promise = 10, says = "A DOOR more, behind all others (it HOLDS what it does at first): how many there are.")
    static void p10BehindAllOthers() {
        TokenDoors x = new TokenDoors();
        int[][] doors = {{3, 9, 9}, {0, 1, 0}, {0, 9, 9}, {1, 1, 0}};
        for (int d = 0; d <= 3; d++) {
            Due.is("hang", x.hang(doors[d][0], doors[d][1], doors[d][2]), d + 1);
            for (int what = 0; what <= 2; what++) {
                Due.is("door(" + d + ", " + what + ")", x.door(d, what), doors[d][what]);
            }
            Due.is("door(" + d + ", 3)", x.door(d, 3), doors[d][0] == 0 ? doors[d][1] : 0);
        }
        for (int what = 0; what <= 2; what++) {
            Due.is("door(0, " + what + ") still", x.door(0, what), doors[0][what]);
        }
    }

    @Sentence(promise = 10, says = "(it HOLDS what it does at first)")
    static void p10HoldsAtFirstWhereAnotherWas() {
        TokenDoors x = Due.told("leak 9 0;token 9 0;");
        x.alter(0, 3, 7);
        x.alter(1, 3, 2);
        x.cut(0);
        x.hang(2, 9, 0);
        x.hang(0, 8, 0);
        Due.is("door(0, 3)", x.door(0, 3), 0);
        Due.is("door(1, 3)", x.door(1, 3), 8);
    }

    @Sentence(promise = 10, says = "BAD; FULL.")
    static void p10Bad() {
        TokenDoors x = new TokenDoors();
        Edges.all("hang(#, 1, 1)", v -> x.hang(v, 1, 1), BAD, Edges.outside(0, 3));
        Edges.all("hang(0, #, 1)", v -> x.hang(0, v, 1), BAD, Edges.outside(1, 9));
        Edges.all("hang(0, 1, #)", v -> x.hang(0, 1, v), BAD, Edges.outside(0, 9));
        Due.is("rule(0)", x.rule(0), 0);
        Due.is("hang(0, 1, 0): the least", x.hang(0, 1, 0), 1);
        Due.is("hang(3, 9, 9): the greatest", x.hang(3, 9, 9), 2);
    }

    @Sentence(promise = 10, says = "BAD; FULL.")
    static void p10FullOfFour() {
        TokenDoors x = new TokenDoors();
        for (int d = 1; d <= 4; d++) {
            Due.is("hang of the " + d + "th", x.hang(1, d, 0), d);
        }
        Due.is("hang of a 5th", x.hang(0, 9, 9), FULL);
        Due.is("hang of it again", x.hang(0, 9, 9), FULL);
        Due.is("rule(0)", x.rule(0), 4);
        Due.is("door(3, 1): the last is as it was", x.door(3, 1), 4);
        x.cut(3);
        Due.is("hang behind three", x.hang(0, 9, 9), 4);
    }

    @Sentence(promise = 10, says = "BAD; FULL.")
    static void p10BadAheadOfFull() {
        TokenDoors x = Worlds.packed();
        Due.is("hang(4, 1, 1)", x.hang(4, 1, 1), BAD);
        Due.is("hang(0, 0, 1)", x.hang(0, 0, 1), BAD);
        Due.is("hang(0, 10, 1)", x.hang(0, 10, 1), BAD);
        Due.is("hang(0, 1, 10)", x.hang(0, 1, 10), BAD);
        Due.is("hang(0, 1, 9)", x.hang(0, 1, 9), FULL);
    }

    // ---- 11: cut

    @Sentence(promise = 11, says = "DOORS are the first n alone: how many there were.")
    static void p11FirstNAlone() {
        for (int were = 0; were <= 4; were++) {
            for (int n = 0; n <= were; n++) {
                TokenDoors x = new TokenDoors();
                for (int d = 0; d < were; d++) {
                    x.hang(d, d + 1, d);
                }
                Due.is("of " + were + " cut(" + n + ")", x.cut(n), were);
                Due.is("rule(0)", x.rule(0), n);
                for (int d = 0; d < 4; d++) {
                    Due.is("door(" + d + ", 1)", x.door(d, 1), d < n ? d + 1 : BAD);
                }
            }
        }
    }

    @Sentence(promise = 11, says = "BAD.")
    static void p11Bad() {
        TokenDoors x = new TokenDoors();
        for (int were = 0; were <= 4; were++) {
            Edges.all("of " + were + " cut(#)", x::cut, BAD, Edges.outside(0, were));
            Edges.all("of " + were + " cut(#)", x::cut, BAD, 5);
            Due.is("rule(0)", x.rule(0), were);
            x.hang(1, 1, 1);
        }
    }

    // ---- 12: come

    @Sentence(promise = 12, says = "A CROWD more, behind all others: how many there are.")
    static void p12BehindAllOthers() {
        TokenDoors x = new TokenDoors();
        int[][] crowds = {{99, 9, 9}, {0, 1, 0}, {0, 9, 1}, {50, 5, 5}};
        for (int i = 0; i < crowds.length; i++) {
            Due.is("come", x.come(crowds[i][0], crowds[i][1], crowds[i][2]), i + 1);
            for (int what = 0; what <= 2; what++) {
                Due.is("crowd(" + i + ", " + what + ")", x.crowd(i, what), crowds[i][what]);
                Due.is("crowd(0, " + what + ") still", x.crowd(0, what), crowds[0][what]);
            }
        }
    }

    @Sentence(promise = 12, says = "A CROWD more, behind all others: how many there are.")
    static void p12OfATickThatIsGone() {
        TokenDoors x = new TokenDoors();
        x.ticks(50);
        Due.is("come(49, 9, 0): it does not come any more", x.come(49, 9, 0), 1);
        Due.is("runs(100, 0)", x.runs(100, 0), 0);
        Due.is("come(49, 1, 9): it comes again", x.come(49, 1, 9), 2);
        Due.is("lets(7)", x.lets(7), 0);
        Due.is("lets(8)", x.lets(8), 1);
        Due.is("come(50, 1, 0): it comes now", x.come(50, 1, 0), 3);
        Due.is("lets(0)", x.lets(0), 1);
    }

    @Sentence(promise = 12, says = "BAD; FULL.")
    static void p12Bad() {
        TokenDoors x = new TokenDoors();
        Edges.all("come(#, 1, 1)", v -> x.come(v, 1, 1), BAD, Edges.outside(0, 99));
        Edges.all("come(0, #, 1)", v -> x.come(0, v, 1), BAD, Edges.outside(1, 9));
        Edges.all("come(0, 1, #)", v -> x.come(0, 1, v), BAD, Edges.outside(0, 9));
        Due.is("rule(1)", x.rule(1), 0);
        Due.is("come(0, 1, 0): the least", x.come(0, 1, 0), 1);
        Due.is("come(99, 9, 9): the greatest", x.come(99, 9, 9), 2);
    }

    @Sentence(promise = 12, says = "BAD; FULL.")
    static void p12FullOfEight() {
        TokenDoors x = new TokenDoors();
        for (int i = 1; i <= 8; i++) {
            Due.is("come of the " + i + "th", x.come(i, i, i), i);
        }
        Due.is("come of a 9th", x.come(9, 9, 9), FULL);
        Due.is("come of it again", x.come(9, 9, 9), FULL);
        Due.is("rule(1)", x.rule(1), 8);
        Due.is("crowd(7, 1): the last is as it was", x.crowd(7, 1), 8);
        x.leave(7);
        Due.is("come behind seven", x.come(9, 9, 9), 8);
    }

    @Sentence(promise = 12, says = "BAD; FULL.")
    static void p12BadAheadOfFull() {
        TokenDoors x = Worlds.packed();
        Due.is("come(100, 1, 1)", x.come(100, 1, 1), BAD);
        Due.is("come(0, 0, 1)", x.come(0, 0, 1), BAD);
        Due.is("come(0, 10, 1)", x.come(0, 10, 1), BAD);
        Due.is("come(0, 1, 10)", x.come(0, 1, 10), BAD);
        Due.is("come(99, 9, 9)", x.come(99, 9, 9), FULL);
    }

    // ---- 13: leave

    @Sentence(promise = 13, says = "CROWDS are the first n alone: how many there were.")
    static void p13FirstNAlone() {
        for (int were = 0; were <= 8; were++) {
            for (int n = 0; n <= were; n++) {
                TokenDoors x = new TokenDoors();
                for (int i = 0; i < were; i++) {
                    x.come(i, i + 1, i);
                }
                Due.is("of " + were + " leave(" + n + ")", x.leave(n), were);
                Due.is("rule(1)", x.rule(1), n);
                for (int i = 0; i < 8; i++) {
                    Due.is("crowd(" + i + ", 1)", x.crowd(i, 1), i < n ? i + 1 : BAD);
                }
            }
        }
    }

    @Sentence(promise = 13, says = "BAD.")
    static void p13Bad() {
        TokenDoors x = new TokenDoors();
        for (int were = 0; were <= 8; were++) {
            Edges.all("of " + were + " leave(#)", x::leave, BAD, Edges.outside(0, were));
            Edges.all("of " + were + " leave(#)", x::leave, BAD, 9);
            Due.is("rule(1)", x.rule(1), were);
            x.come(1, 1, 1);
        }
    }

    // ---- 14: pass

    @Sentence(promise = 14, says = "One comes by hand now (LET, TURNED count him)")
    static void p14LetTurnedCountHim() {
        TokenDoors x = Due.told("leak 2 9;crowd 0 9 1;");
        int[][] due = {{1, 0}, {2, 0}, {2, 1}, {2, 2}};
        for (int[] d : due) {
            x.pass();
            Due.is("rule(3)", x.rule(3), d[0]);
            Due.is("rule(4)", x.rule(4), d[1]);
            Due.is("rule(2): it is the same TICK", x.rule(2), 0);
            Due.is("door(0, 3): the DOOR does not SETTLE", x.door(0, 3), d[0]);
        }
    }

    @Sentence(promise = 14, says = "the DOOR that turns him away")
    static void p14TheDoorThatTurnsHimAway() {
        for (int d = 0; d <= 3; d++) {
            TokenDoors x = Due.told("leak 9 0;leak 9 0;leak 9 0;leak 9 0;");
            for (int shut = d; shut <= 3; shut++) {
                x.alter(shut, 3, 9);
            }
            Due.is("pass()", x.pass(), d);
            for (int e = 0; e <= 3; e++) {
                Due.is("door(" + e + ", 3)", x.door(e, 3), e < d ? 1 : 9);
            }
            Due.is("rule(4)", x.rule(4), 1);
        }
    }

    @Sentence(promise = 14, says = "NONE: he is LET.")
    static void p14NoneHeIsLet() {
        TokenDoors x = new TokenDoors();
        Due.is("pass() with no DOORS", x.pass(), NONE);
        for (int kind = 0; kind <= 3; kind++) {
            x.hang(kind, 1, 0);
        }
        Due.is("pass() of four", x.pass(), NONE);
        Due.is("pass() of one more", x.pass(), 0);
        Due.is("rule(3)", x.rule(3), 2);
    }
}
