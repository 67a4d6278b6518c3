/** Boundaries of promises 36 to 42: keep, back, sheet, lay, read, torn, count. */
public final class SheetEdgesTest {
    private static final int BAD = TokenDoors.BAD, STATE = TokenDoors.STATE, NONE = TokenDoors.NONE;
    private static final int MIN = Integer.MIN_VALUE, MAX = Integer.MAX_VALUE;

    public static void main(String[] args) throws Exception {
        Edges.run(SheetEdgesTest.class);
    }

    /** An object whose SHEET 0, of a lane, has these CELLS. */
    private static TokenDoors laid(int lane, int... cells) {
        TokenDoors x = new TokenDoors();
        Worlds.lay(x, 0, lane, cells);
        return x;
    }

    /** The CELLS of so many CROWDS, one as good as another. */
    private static int[] crowds(int n) {
        int[] cells = new int[3 * n];
        for (int i = 0; i < n; i++) {
            cells[3 * i] = 10 + i;
            cells[3 * i + 1] = 1 + i % 9;
            cells[3 * i + 2] = i % 10;
        }
        return cells;
    }

    /** The answer of a read() and torn() behind it, where torn() was another before. */
    private static void reads(String call, TokenDoors x, int[] args, int answer, int fault) {
        x.read(0, 0, 0, 0);
        Due.is("torn() ahead", x.torn(), 0);
        Due.is(call, x.read(args[0], args[1], args[2], args[3]), answer);
        Due.is("torn() behind " + call, x.torn(), fault);
    }

    private static void reads(TokenDoors x, int k, int lane, int f, int n, int answer, int fault) {
        reads("read(" + k + ", " + lane + ", " + f + ", " + n + ")", x, new int[] {k, lane, f, n}, answer, fault);
    }

    // ---- 36: keep

    @Sentence(promise = 36, says = "IMAGE k (0, 1) is DOORS, CROWDS (all of them), TICK, LET, TURNED")
    static void p36Image0And1() {
        for (int k = 0; k <= 1; k++) {
            TokenDoors x = Worlds.packed();
            String due = Due.hall(x);
            x.keep(k);
            x.cut(0);
            x.leave(0);
            x.pass();
            Due.is("back(" + k + ")", x.back(k), 999);
            Due.holds("all four DOORS and all eight CROWDS are there", Due.hall(x).equals(due));
        }
        TokenDoors y = new TokenDoors();
        y.keep(1);
        Due.is("back(0): the other is not there", y.back(0), STATE);
        y.hang(1, 1, 1);
        y.come(1, 1, 1);
        Due.is("back(1) to nothing", y.back(1), 0);
        Due.is("rule(0)", y.rule(0), 0);
        Due.is("rule(1)", y.rule(1), 0);
    }

    @Sentence(promise = 36, says = "whether there was one (1, 0).")
    static void p36WhetherThereWasOne() {
        TokenDoors x = new TokenDoors();
        for (int k = 0; k <= 1; k++) {
            Due.is("keep(" + k + ")", x.keep(k), 0);
            Due.is("keep(" + k + ") again", x.keep(k), 1);
        }
        x.text();
        for (int k = 1; k >= 0; k--) {
            Due.is("keep(" + k + ") behind a text", x.keep(k), 0);
            Due.is("keep(" + k + ") again", x.keep(k), 1);
        }
        Due.tell(x, "?");
        Due.is("keep(0) behind a text of a FAULT", x.keep(0), 1);
    }

    @Sentence(promise = 36, says = "BAD.")
    static void p36Bad() {
        TokenDoors x = new TokenDoors();
        Edges.all("keep(#)", x::keep, BAD, Edges.outside(0, 1));
        Due.is("count(1)", x.count(1), 0);
    }

    // ---- 37: back

    @Sentence(promise = 37, says = "All is as IMAGE k: TICK.")
    static void p37TickLeastAndMost() {
        TokenDoors x = Worlds.packed();
        Due.is("back(0)", x.back(0), 0);
        Due.is("rule(2)", x.rule(2), 0);
        Due.is("back(1)", x.back(1), 900);
        Due.is("rule(2)", x.rule(2), 900);
        x.ticks(99);
        x.keep(0);
        Due.is("back(1) again", x.back(1), 900);
        Due.is("back(0) to TICK 999", x.back(0), 999);
        Due.is("ticks(1)", x.ticks(1), TokenDoors.FULL);
        Due.is("back(0) to where it is", x.back(0), 999);
    }

    @Sentence(promise = 37, says = "All is as IMAGE k: TICK.")
    static void p37ImageStaysAsItWas() {
        TokenDoors x = Due.told("leak 9 0;crowd 0 1 1;");
        x.keep(0);
        x.alter(0, 3, 5);
        x.pass();
        x.ticks(3);
        for (int i = 0; i < 3; i++) {
            Due.is("back(0)", x.back(0), 0);
            Due.is("door(0, 3)", x.door(0, 3), 0);
            Due.is("rule(3)", x.rule(3), 0);
            x.alter(0, 3, 7);
            x.pass();
            x.leave(0);
        }
    }

    @Sentence(promise = 37, says = "BAD; STATE: there is none.")
    static void p37Bad() {
        TokenDoors x = Worlds.packed();
        Edges.bounds("back(#)", x::back, 0, 1);
    }

    @Sentence(promise = 37, says = "STATE: there is none.")
    static void p37StateThereIsNone() {
        TokenDoors x = new TokenDoors();
        Due.is("back(0)", x.back(0), STATE);
        Due.is("back(1)", x.back(1), STATE);
        x.keep(1);
        Due.is("back(0) still", x.back(0), STATE);
        Due.is("back(1)", x.back(1), 0);
        x.text();
        Due.is("back(1) behind a text", x.back(1), STATE);
    }

    @Sentence(promise = 37, says = "BAD; STATE: there is none.")
    static void p37BadAheadOfState() {
        TokenDoors x = new TokenDoors();
        Edges.all("back(#)", x::back, BAD, Edges.outside(0, 1));
    }

    // ---- 38: sheet

    @Sentence(promise = 38, says = "A SHEET is a new row of CELLS 0: 1.")
    static void p38NewRowOf0() {
        TokenDoors x = new TokenDoors();
        for (int lane = 0; lane <= 2; lane++) {
            Due.is("sheet(0, " + lane + ", 40)", x.sheet(0, lane, 40), 1);
            Due.is("count(3)", x.count(3), 40);
            for (int i = 0; i < 40; i++) {
                Due.is("lay(0, " + i + ", -1)", x.lay(0, i, -1), 1);
            }
        }
        Due.is("sheet(0, 2, 0)", x.sheet(0, 2, 0), 1);
        Due.is("count(3) of no CELLS", x.count(3), 0);
        Due.is("sheet(0, 2, 39)", x.sheet(0, 2, 39), 1);
        for (int first = 0; first < 39; first += 3) {
            x.lay(0, first + 1, 1);
        }
        Due.is("read of eight", x.read(0, 2, 0, 8), 8);
        for (int i = 0; i < 8; i++) {
            Due.is("crowd(" + i + ", 0)", x.crowd(i, 0), 0);
            Due.is("crowd(" + i + ", 2)", x.crowd(i, 2), 0);
        }
        x.leave(0);
        Due.is("read of the last five", x.read(0, 2, 24, 5), 5);
        Due.is("crowd(4, 0)", x.crowd(4, 0), 0);
        Due.is("crowd(4, 2)", x.crowd(4, 2), 0);
    }

    @Sentence(promise = 38, says = "A SHEET is a new row of CELLS 0: 1.")
    static void p38TheOthersStay() {
        TokenDoors x = new TokenDoors();
        for (int k = 0; k <= 3; k++) {
            Worlds.lay(x, k, 2, k, k + 1, k);
        }
        x.sheet(1, 0, 3);
        Due.is("read of the new one", x.read(1, 0, 0, 1), -20);
        for (int k = 0; k <= 3; k++) {
            Due.is("read of SHEET " + k, x.read(k, 2, 0, 1), k == 1 ? 0 : 1);
        }
        Due.is("crowd(2, 1)", x.crowd(2, 1), 4);
    }

    @Sentence(promise = 38, says = "BAD: also n above 40; -10 - 4.")
    static void p38Bad() {
        TokenDoors x = laid(1, 1, 2, 3);
        Edges.all("sheet(#, 0, 1)", k -> x.sheet(k, 0, 1), BAD, Edges.outside(0, 3));
        Edges.all("sheet(0, #, 1)", lane -> x.sheet(0, lane, 1), BAD, Edges.outside(0, 2));
        Edges.all("sheet(0, 0, #)", n -> x.sheet(0, 0, n), BAD, 41, 42, 256, 65536, MAX);
        Due.is("read: the row is as it was", x.read(0, 1, 0, 1), 1);
        Due.is("sheet(0, 0, 40)", x.sheet(0, 0, 40), 1);
    }

    @Sentence(promise = 38, says = "-10 - 4.")
    static void p38SizeBelow0() {
        TokenDoors x = laid(1, 1, 2, 3);
        Edges.all("sheet(0, 0, #)", n -> x.sheet(0, 0, n), -14, -1, -2, -40, -256, -65536, MIN);
        Due.is("read: the row is as it was", x.read(0, 1, 0, 1), 1);
        Due.is("sheet(1, 0, -1) of nothing", x.sheet(1, 0, -1), -14);
        Due.is("lay(1, 0, 0): it is nothing still", x.lay(1, 0, 0), -11);
    }

    @Sentence(promise = 38, says = "BAD: also n above 40; -10 - 4.")
    static void p38BadAheadOfSize() {
        TokenDoors x = new TokenDoors();
        Due.is("sheet(-1, 0, -1)", x.sheet(-1, 0, -1), BAD);
        Due.is("sheet(4, 0, -1)", x.sheet(4, 0, -1), BAD);
        Due.is("sheet(0, -1, -1)", x.sheet(0, -1, -1), BAD);
        Due.is("sheet(0, 3, -1)", x.sheet(0, 3, -1), BAD);
        Due.is("sheet(3, 2, -1)", x.sheet(3, 2, -1), -14);
    }

    // ---- 39: lay

    /** What a CELL of a lane is once v has been laid, found out by whether a CROWD of that TICK comes. */
    private static void lies(int lane, int v, int cell) {
        TokenDoors x = laid(lane, v, 1, 0);
        boolean tick = cell >= 0 && cell <= 99;
        Due.is("lane " + lane + ": read of a TICK of " + v, x.read(0, lane, 0, 1), tick ? 1 : -20);
        Due.is("lane " + lane + ": the TICK of " + v, x.crowd(0, 0), tick ? cell : BAD);
    }

    @Sentence(promise = 39, says = "CELL i of a SHEET becomes v (its lowest bits): 1.")
    static void p39LowestBitsOfABytesCell() {
        int[][] due = {
            {0, 0}, {99, 99}, {127, 127}, {128, -128}, {255, -1}, {256, 0}, {256 + 99, 99}, {-1, -1}, {-128, -128},
            {-129, 127}, {-157, 99}, {-256, 0}, {MIN, 0}, {MAX, -1}, {MIN + 7, 7}, {65536, 0}};
        for (int[] d : due) {
            lies(0, d[0], d[1]);
        }
    }

    @Sentence(promise = 39, says = "CELL i of a SHEET becomes v (its lowest bits): 1.")
    static void p39LowestBitsOfAShortsCell() {
        int[][] due = {
            {0, 0}, {99, 99}, {128, 128}, {256, 256}, {32767, 32767}, {32768, -32768}, {65535, -1}, {65536, 0},
            {65536 + 99, 99}, {-1, -1}, {-65536, 0}, {-65437, 99}, {MIN, 0}, {MAX, -1}, {MIN + 7, 7}};
        for (int[] d : due) {
            lies(1, d[0], d[1]);
        }
    }

    @Sentence(promise = 39, says = "CELL i of a SHEET becomes v (its lowest bits): 1.")
    static void p39AllBitsOfAnIntsCell() {
        for (int v : new int[] {0, 99, 100, 127, 128, 256, 355, 65536, 65635, -1, -157, -65437, MIN, MIN + 7, MAX}) {
            lies(2, v, v);
        }
    }

    @Sentence(promise = 39, says = "CELL i of a SHEET becomes v (its lowest bits): 1.")
    static void p39FirstAndLastCell() {
        TokenDoors x = new TokenDoors();
        for (int k = 0; k <= 3; k++) {
            x.sheet(k, k % 3, 40);
            Due.is("lay(" + k + ", 0, 5)", x.lay(k, 0, 5), 1);
            Due.is("lay(" + k + ", 1, 6)", x.lay(k, 1, 6), 1);
            Due.is("lay(" + k + ", 38, 7)", x.lay(k, 38, 7), 1);
            Due.is("lay(" + k + ", 39, 8)", x.lay(k, 39, 8), 1);
            x.leave(0);
            Due.is("read from CELL 0", x.read(k, k % 3, 0, 1), 1);
            Due.is("read from CELL 37", x.read(k, k % 3, 37, 1), 1);
            int[] due = {5, 6, 0, 0, 7, 8};
            for (int i = 0; i < 6; i++) {
                Due.is("crowd(" + i / 3 + ", " + i % 3 + ")", x.crowd(i / 3, i % 3), due[i]);
            }
        }
    }

    @Sentence(promise = 39, says = "BAD: k")
    static void p39BadK() {
        TokenDoors x = laid(0, 1, 2, 3);
        Edges.all("lay(#, 0, 9)", k -> x.lay(k, 0, 9), BAD, Edges.outside(0, 3));
        Edges.all("lay(#, -1, 9): BAD is ahead of INDEX", k -> x.lay(k, -1, 9), BAD, Edges.outside(0, 3));
        Due.is("read: the row is as it was", x.read(0, 0, 0, 1), 1);
        Due.is("crowd(0, 0)", x.crowd(0, 0), 1);
    }

    @Sentence(promise = 39, says = "-10 less the FAULT: NULL, INDEX.")
    static void p39Null() {
        TokenDoors x = new TokenDoors();
        for (int k = 0; k <= 3; k++) {
            int sheet = k;
            Edges.all("lay(" + k + ", #, 1): NULL is ahead of INDEX", i -> x.lay(sheet, i, 1), -11, MIN, -1, 0, 1, 39, 40, MAX);
        }
        Due.is("count(3)", x.count(3), NONE);
    }

    @Sentence(promise = 39, says = "-10 less the FAULT: NULL, INDEX.")
    static void p39Index() {
        for (int n = 0; n <= 40; n++) {
            TokenDoors x = new TokenDoors();
            x.sheet(3, 1, n);
            Edges.all("of " + n + " lay(3, #, 1)", i -> x.lay(3, i, 1), -12, Edges.outside(0, n - 1));
            Edges.all("of " + n + " lay(3, #, 1)", i -> x.lay(3, i, 1), -12, 40, 41);
            if (n > 0) {
                Due.is("of " + n + " lay(3, 0, 1)", x.lay(3, 0, 1), 1);
                Due.is("of " + n + " lay(3, " + (n - 1) + ", 1)", x.lay(3, n - 1, 1), 1);
            }
        }
    }

    @Sentence(promise = 39, says = "-10 less the FAULT: NULL, INDEX.")
    static void p39ARowThatWasDeeper() {
        TokenDoors x = laid(2, crowds(13));
        x.sheet(0, 2, 3);
        Due.is("lay(0, 3, 1)", x.lay(0, 3, 1), -12);
        Due.is("lay(0, 2, 1)", x.lay(0, 2, 1), 1);
        reads(x, 0, 2, 3, 1, 0, 2);
    }

    // ---- 40: read

    @Sentence(promise = 40, says = "n (0 to 13) CROWDS (TICK, MANY, EVERY) are read of a SHEET taken as of a lane, three CELLS each from CELL f on, one behind another as by come(): how many came.")
    static void p40Crowds0To13() {
        for (int n = 0; n <= 8; n++) {
            TokenDoors x = laid(n % 3, crowds(13));
            reads(x, 0, n % 3, 0, n, n, 0);
            Due.is("rule(1)", x.rule(1), n);
            for (int i = 0; i < 3 * n; i++) {
                Due.is("crowd(" + i / 3 + ", " + i % 3 + ")", x.crowd(i / 3, i % 3), crowds(13)[i]);
            }
        }
        for (int n = 9; n <= 13; n++) {
            reads(laid(n % 3, crowds(13)), 0, n % 3, 0, n, -28, 0);
        }
        TokenDoors y = laid(0, crowds(5));
        Due.is("read(0, 0, 0, 13) of five: whole ones came", y.read(0, 0, 0, 13), 5);
        Due.is("read(0, 0, 0, 14)", y.read(0, 0, 0, 14), BAD);
        Due.is("rule(1)", y.rule(1), 5);
    }

    @Sentence(promise = 40, says = "three CELLS each from CELL f on, one behind another as by come()")
    static void p40FromCellFOn() {
        int[] cells = new int[40];
        System.arraycopy(crowds(13), 0, cells, 0, 39);
        for (int f = 0; f <= 39; f += 3) {
            TokenDoors x = laid(2, cells);
            boolean whole = f <= 37;
            reads(x, 0, 2, f, 1, whole ? 1 : 0, whole ? 0 : 2);
            Due.is("crowd(0, 0)", x.crowd(0, 0), whole ? 10 + f / 3 : BAD);
        }
        cells[38] = 3;
        cells[39] = 4;
        TokenDoors y = laid(2, cells);
        reads(y, 0, 2, 38, 1, 0, 2);
        reads(y, 0, 2, 37, 1, 1, 0);
        Due.is("crowd(0, 2): the last CELL", y.crowd(0, 2), 4);
    }

    @Sentence(promise = 40, says = "one behind another as by come()")
    static void p40BehindAllOthers() {
        TokenDoors x = laid(1, crowds(3));
        x.come(99, 9, 9);
        Due.is("read(0, 1, 3, 2)", x.read(0, 1, 3, 2), 2);
        Due.is("crowd(0, 0)", x.crowd(0, 0), 99);
        Due.is("crowd(1, 0)", x.crowd(1, 0), 11);
        Due.is("crowd(2, 0)", x.crowd(2, 0), 12);
        TokenDoors y = laid(0, 0, 1, 0, 99, 9, 9);
        Due.is("read of the least and of the greatest", y.read(0, 0, 0, 2), 2);
        int[] due = {0, 1, 0, 99, 9, 9};
        for (int i = 0; i < 6; i++) {
            Due.is("crowd(" + i / 3 + ", " + i % 3 + ")", y.crowd(i / 3, i % 3), due[i]);
        }
    }

    @Sentence(promise = 40, says = "What the machine refuses: those that were whole ahead came (its FAULT is asked by torn()).")
    static void p40IndexThoseThatWereWholeCame() {
        for (int cells = 0; cells <= 9; cells++) {
            int[] row = java.util.Arrays.copyOf(crowds(3), cells);
            TokenDoors x = laid(1, row);
            int came = cells / 3;
            reads(x, 0, 1, 0, 3, came, came == 3 ? 0 : 2);
            Due.is("of " + cells + " CELLS: rule(1)", x.rule(1), came);
        }
        TokenDoors y = laid(0, crowds(13));
        for (int f : new int[] {MIN, MIN + 1, MIN + 2, -40, -4, -3, -2, -1, 37, 38, 39, 40, 41, 256, MAX - 3, MAX - 2, MAX - 1, MAX}) {
            reads(y, 0, 0, f, 1, 0, 2);
            reads(y, 0, 0, f, 13, 0, 2);
        }
        Due.is("rule(1)", y.rule(1), 0);
    }

    @Sentence(promise = 40, says = "What the machine refuses: those that were whole ahead came (its FAULT is asked by torn()).")
    static void p40NullAndCastNobodyCame() {
        TokenDoors x = laid(1, crowds(3));
        for (int lane = 0; lane <= 2; lane++) {
            for (int f : new int[] {MIN, -1, 0, 8, 9, MAX}) {
                reads(x, 1, lane, f, 1, 0, 1);
                reads(x, 1, lane, f, 13, 0, 1);
                if (lane != 1) {
                    reads(x, 0, lane, f, 1, 0, 3);
                    reads(x, 0, lane, f, 13, 0, 3);
                }
            }
        }
        Due.is("rule(1)", x.rule(1), 0);
        TokenDoors y = laid(1);
        reads(y, 0, 0, 0, 1, 0, 3);
        reads(y, 0, 1, 0, 1, 0, 2);
    }

    @Sentence(promise = 40, says = "What the machine refuses: those that were whole ahead came (its FAULT is asked by torn()).")
    static void p40OfNoneTheMachineRefusesNothing() {
        TokenDoors x = laid(1, crowds(3));
        for (int k = 0; k <= 1; k++) {
            for (int lane = 0; lane <= 2; lane++) {
                for (int f : new int[] {MIN, -1, 0, 9, 40, MAX}) {
                    x.read(3, 0, 0, 1);
                    Due.is("torn() ahead", x.torn(), 1);
                    Due.is("read(" + k + ", " + lane + ", " + f + ", 0)", x.read(k, lane, f, 0), 0);
                    Due.is("torn()", x.torn(), 0);
                }
            }
        }
        Due.is("rule(1)", x.rule(1), 0);
    }

    @Sentence(promise = 40, says = "BAD: k, lane, n")
    static void p40Bad() {
        TokenDoors x = laid(1, crowds(3));
        x.read(1, 1, 0, 1);
        Edges.all("read(#, 1, 0, 1)", k -> x.read(k, 1, 0, 1), BAD, Edges.outside(0, 3));
        Edges.all("read(0, #, 0, 1)", lane -> x.read(0, lane, 0, 1), BAD, Edges.outside(0, 2));
        Edges.all("read(0, 1, 0, #)", n -> x.read(0, 1, 0, n), BAD, Edges.outside(0, 13));
        Due.is("rule(1)", x.rule(1), 0);
        Due.is("torn() is as it was", x.torn(), 1);
        Due.is("read(0, 3, 9, 1): BAD is ahead of what the machine finds", x.read(0, 3, 9, 1), BAD);
        Due.is("read(1, 1, -1, 14): BAD is ahead of what the machine finds", x.read(1, 1, -1, 14), BAD);
    }

    @Sentence(promise = 40, says = "-20 less i: the i-th, whole, is refused by come() (in whichever way): then none came")
    static void p40RefusedByComeAsBad() {
        int[][] bad = {{-1, 1, 1}, {100, 1, 1}, {0, 0, 1}, {0, 10, 1}, {0, 1, -1}, {0, 1, 10}, {MIN, MAX, MIN}};
        for (int i = 0; i <= 7; i++) {
            for (int[] b : bad) {
                int[] cells = crowds(8);
                System.arraycopy(b, 0, cells, 3 * i, 3);
                TokenDoors x = laid(2, cells);
                Due.is("the " + i + "th is refused", x.read(0, 2, 0, 8), -20 - i);
                Due.is("rule(1)", x.rule(1), 0);
                Due.is("read of those ahead", x.read(0, 2, 0, i), i);
            }
        }
    }

    @Sentence(promise = 40, says = "-20 less i: the i-th, whole, is refused by come() (in whichever way): then none came")
    static void p40RefusedByComeAsFull() {
        for (int were = 0; were <= 8; were++) {
            TokenDoors x = laid(0, crowds(13));
            for (int i = 0; i < were; i++) {
                x.come(1, 1, 1);
            }
            int room = 8 - were;
            Due.is("of " + were + " read(0, 0, 0, 13)", x.read(0, 0, 0, 13), -20 - room);
            Due.is("of " + were + " one too many", x.read(0, 0, 0, room + 1), -20 - room);
            Due.is("rule(1)", x.rule(1), were);
            Due.is("of " + were + " as many as may be", x.read(0, 0, 0, room), room);
            Due.is("rule(1)", x.rule(1), 8);
        }
    }

    @Sentence(promise = 40, says = "then none came; the first met.")
    static void p40TheFirstMet() {
        TokenDoors x = laid(0, 1, 1, 1, 0, 0, 0, 0, 0, 0, 1, 1);
        Due.is("the second is refused ahead of the third and of INDEX", x.read(0, 0, 0, 4), -21);
        Due.is("of its own two", x.read(0, 0, 3, 3), -20);
        TokenDoors y = laid(0, 1, 1, 1, 0, 0);
        reads(y, 0, 0, 0, 2, 1, 2);
        Due.is("rule(1): what is not whole is not asked of come()", y.rule(1), 1);
        TokenDoors z = laid(0, crowds(2));
        for (int i = 0; i < 8; i++) {
            z.come(1, 1, 1);
        }
        reads(z, 0, 0, 4, 1, 0, 2);
        reads(z, 0, 1, 0, 1, 0, 3);
        Due.is("full, and whole", z.read(0, 0, 3, 1), -20);
        Due.is("full, and of no number of a CROWD", laid(0, 0, 0, 0).read(0, 0, 0, 13), -20);
    }

    // ---- 41: torn

    @Sentence(promise = 41, says = "The FAULT of the latest read() that came to an end; 0.")
    static void p41FaultOfTheLatest() {
        TokenDoors x = laid(1, 1, 1, 1, 0, 0, 0);
        Due.is("torn() ahead of any read()", x.torn(), 0);
        int[][] args = {{1, 1, 0, 1}, {0, 1, 4, 1}, {0, 0, 0, 1}, {0, 1, 0, 1}, {0, 2, 0, 1}, {0, 1, 0, 0}};
        int[] due = {1, 2, 3, 0, 3, 0};
        for (int i = 0; i < args.length; i++) {
            x.read(args[i][0], args[i][1], args[i][2], args[i][3]);
            Due.is("torn()", x.torn(), due[i]);
            Due.is("torn() again", x.torn(), due[i]);
        }
    }

    @Sentence(promise = 41, says = "The FAULT of the latest read() that came to an end; 0.")
    static void p41WhatIsRefusedDidNotComeToAnEnd() {
        TokenDoors x = laid(1, 1, 1, 1, 0, 0, 0);
        x.read(0, 2, 0, 1);
        x.read(4, 1, 0, 1);
        Due.is("torn() behind BAD", x.torn(), 3);
        Due.is("read of one that is refused", x.read(0, 1, 0, 2), -21);
        Due.is("torn() behind it", x.torn(), 3);
        x.sheet(0, 1, -1);
        x.lay(0, 40, 0);
        x.lay(3, 0, 0);
        x.text();
        x.keep(0);
        x.back(0);
        Due.is("torn() behind other calls", x.torn(), 3);
        x.read(0, 1, 0, 1);
        Due.is("torn() behind a whole read()", x.torn(), 0);
    }

    // ---- 42: count

    @Sentence(promise = 42, says = "How many: 0 SEEN, 1 IMAGES, 2 bytes on THE TAPE, 3 CELLS of SHEET 0 (NONE: nothing), 4 DEPTHS of all DOORS, 5 MANY of all CROWDS.")
    static void p42LeastAndMost() {
        TokenDoors x = new TokenDoors();
        int[] least = {0, 0, 0, NONE, 0, 0};
        for (int what = 0; what <= 5; what++) {
            Due.is("count(" + what + ") of nothing", x.count(what), least[what]);
        }
        TokenDoors y = Worlds.packed();
        y.sheet(0, 0, 40);
        for (int d = 0; d <= 3; d++) {
            y.alter(d, 1, 9);
        }
        y.leave(0);
        for (int i = 0; i < 8; i++) {
            y.come(0, 9, 0);
        }
        int[] most = {6, 2, 160, 40, 36, 72};
        for (int what = 0; what <= 5; what++) {
            Due.is("count(" + what + ") of the most", y.count(what), most[what]);
        }
        y.cut(3);
        y.leave(7);
        Due.is("count(4) of three", y.count(4), 27);
        Due.is("count(5) of seven", y.count(5), 63);
    }

    @Sentence(promise = 42, says = "3 CELLS of SHEET 0 (NONE: nothing)")
    static void p42NoneNothing() {
        TokenDoors x = new TokenDoors();
        x.sheet(1, 0, 40);
        Due.is("count(3): SHEET 0 is nothing still", x.count(3), NONE);
        x.sheet(0, 0, -1);
        Due.is("count(3) behind SIZE", x.count(3), NONE);
        x.sheet(0, 0, 41);
        Due.is("count(3) behind BAD", x.count(3), NONE);
        x.sheet(0, 0, 0);
        Due.is("count(3) of no CELLS", x.count(3), 0);
        x.sheet(0, 2, 1);
        Due.is("count(3) of one", x.count(3), 1);
        x.text();
        Due.is("count(3) behind a text", x.count(3), 1);
    }

    @Sentence(promise = 42, says = "BAD.")
    static void p42Bad() {
        TokenDoors x = Worlds.packed();
        Edges.bounds("count(#)", x::count, 0, 5);
    }
}
