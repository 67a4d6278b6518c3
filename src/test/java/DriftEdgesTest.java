/** Boundaries of promise 35: drift. */
public final class DriftEdgesTest {
    private static final int BAD = TokenDoors.BAD, STATE = TokenDoors.STATE;

    public static void main(String[] args) throws Exception {
        Edges.run(DriftEdgesTest.class);
    }

    /** The ones who come in each TICK, worked out in numbers that do not wrap. */
    private static int[] comers(int seed, int n) {
        int[] come = new int[n];
        java.math.BigInteger grown = java.math.BigInteger.valueOf(seed);
        for (int i = 0; i < n; i++) {
            grown = grown.multiply(java.math.BigInteger.valueOf(1103515245)).add(java.math.BigInteger.valueOf(12345));
            int got = 0;
            for (int bit = 16; bit <= 30; bit++) {
                got += grown.testBit(bit) ? 1 << (bit - 16) : 0;
            }
            come[i] = got % 10;
        }
        return come;
    }

    private static int sum(int[] row, int most) {
        int sum = 0;
        for (int v : row) {
            sum += Math.min(v, most);
        }
        return sum;
    }

    @Sentence(promise = 35, says = "By itself, n TICKS (1 to 100) by a seed")
    static void p35Ticks1To100() {
        TokenDoors x = Due.told("window 4 1;");
        for (int n : new int[] {1, 2, 99, 100}) {
            int[] come = comers(7, n);
            Due.is("drift(7, " + n + ", 0)", x.drift(7, n, 0), sum(come, 4));
            Due.is("drift(7, " + n + ", 1)", x.drift(7, n, 1), sum(come, 9) - sum(come, 4));
        }
        Due.is("drift(7, 0, 0)", x.drift(7, 0, 0), BAD);
        Due.is("drift(7, 101, 0)", x.drift(7, 101, 0), BAD);
    }

    @Sentence(promise = 35, says = "By itself, n TICKS (1 to 100) by a seed")
    static void p35ByItself() {
        Edges.leavesAll("drift(0, 100, 1)", Worlds::some, x -> x.drift(0, 100, 1) >= 0 ? 1 : 0, 1);
        Edges.leavesAll("drift(0, 100, 0) at 999", Worlds::packed, x -> x.drift(0, 100, 0) >= 0 ? 1 : 0, 1);
    }

    @Sentence(promise = 35, says = "ahead of each the seed becomes seed times 1103515245 and 12345; bits 16 to 30 of it are got: in that TICK got modulo 10 come (in place of CROWDS)")
    static void p35SeedsWrapAround() {
        int[] seeds = {
            0, 1, -1, 2, -2, 12345, -12345, 0x7fff, 0x8000, 0xffff, 0x10000, 0x40000000, 0xc0000000,
            Integer.MAX_VALUE, Integer.MAX_VALUE - 1, Integer.MIN_VALUE, Integer.MIN_VALUE + 1};
        TokenDoors x = Due.told("window 9 1;crowd 0 9 1;");
        TokenDoors y = Due.told("window 1 1;crowd 0 9 1;");
        for (int seed : seeds) {
            for (int n : new int[] {1, 2, 3, 100}) {
                int[] come = comers(seed, n);
                Due.is("drift(" + seed + ", " + n + ", 0) of all", x.drift(seed, n, 0), sum(come, 9));
                Due.is("drift(" + seed + ", " + n + ", 1) of all", x.drift(seed, n, 1), 0);
                Due.is("drift(" + seed + ", " + n + ", 0) by ones", y.drift(seed, n, 0), sum(come, 1));
            }
        }
    }

    @Sentence(promise = 35, says = "in that TICK got modulo 10 come (in place of CROWDS)")
    static void p35Come0To9() {
        TokenDoors x = Due.told("window 9 1;crowd 0 9 1;");
        boolean[] met = new boolean[10];
        for (int seed = 0; seed < 200; seed++) {
            int many = x.drift(seed, 1, 0);
            Due.is("drift(" + seed + ", 1, 0)", many, comers(seed, 1)[0]);
            met[many] = true;
        }
        for (int many = 0; many <= 9; many++) {
            Due.holds(many + " come by some seed", met[many]);
        }
    }

    @Sentence(promise = 35, says = "how many are LET in them (what 0), TURNED (1).")
    static void p35LetAndTurned() {
        TokenDoors x = Due.told("leak 1 0;crowd 0 9 1;");
        int all = sum(comers(5, 100), 9);
        Due.is("drift(5, 100, 0)", x.drift(5, 100, 0), 1);
        Due.is("drift(5, 100, 1)", x.drift(5, 100, 1), all - 1);
        x.ticks(1);
        Due.is("rule(3)", x.rule(3), 1);
        Due.is("drift(5, 100, 0): what was before does not count", x.drift(5, 100, 0), 0);
        Due.is("drift(5, 100, 1): what was before does not count", x.drift(5, 100, 1), all);
    }

    @Sentence(promise = 35, says = "BAD; STATE: there are no DOORS.")
    static void p35Bad() {
        TokenDoors x = Due.told("leak 9 0;");
        Edges.bounds("drift(1, #, 0)", n -> x.drift(1, n, 0), 1, 100);
        Edges.bounds("drift(1, 1, #)", what -> x.drift(1, 1, what), 0, 1);
        for (int seed : new int[] {Integer.MIN_VALUE, -1, 0, Integer.MAX_VALUE}) {
            Due.holds("no seed is BAD", x.drift(seed, 1, 0) >= 0);
        }
    }

    @Sentence(promise = 35, says = "STATE: there are no DOORS.")
    static void p35StateThereAreNoDoors() {
        TokenDoors x = Due.told("crowd 0 9 1;");
        Due.is("drift(1, 1, 0)", x.drift(1, 1, 0), STATE);
        Due.is("drift(1, 100, 1)", x.drift(1, 100, 1), STATE);
        x.hang(1, 1, 1);
        Due.is("drift(1, 1, 0) with one", x.drift(1, 1, 0), 1);
        x.cut(0);
        Due.is("drift(1, 1, 0) with none", x.drift(1, 1, 0), STATE);
    }

    @Sentence(promise = 35, says = "BAD; STATE: there are no DOORS.")
    static void p35BadAheadOfState() {
        TokenDoors x = new TokenDoors();
        Edges.all("drift(1, #, 0)", n -> x.drift(1, n, 0), BAD, Edges.outside(1, 100));
        Edges.all("drift(1, 1, #)", what -> x.drift(1, 1, what), BAD, Edges.outside(0, 1));
    }
}
