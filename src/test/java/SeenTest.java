/** Promises 29 to 34: see, forget, kinds, depths, rates, ask. */
public final class SeenTest {
    public static void main(String[] args) {
        seeing();
        forgetting();
        fitting();
        fromNowOn();
        asking();
        Due.finish();
    }

    private static void seeing() {
        TokenDoors x = new TokenDoors();
        int[][] bad = {{-1, 0}, {41, 0}, {0, -1}, {0, 73}};
        for (int[] b : bad) {
            Due.is("see(" + b[0] + ", " + b[1] + ")", x.see(b[0], b[1]), TokenDoors.BAD);
        }
        Due.is("see(40, 72)", x.see(40, 72), 1);
        Due.is("see(0, 0)", x.see(0, 0), 2);
        for (int i = 3; i <= 6; i++) {
            Due.is("see(0, 0)", x.see(0, 0), i);
        }
        Due.is("a 7th", x.see(0, 0), TokenDoors.FULL);
        Due.is("a 7th that is wrong", x.see(41, 0), TokenDoors.BAD);
        Due.is("count(0)", x.count(0), 6);
    }

    private static void forgetting() {
        TokenDoors x = Due.told("leak 3 1;crowd 0 2 1;");
        Due.is("forget(-1)", x.forget(-1), TokenDoors.BAD);
        Due.is("forget(1) of none", x.forget(1), TokenDoors.BAD);
        Due.is("forget(0) of none", x.forget(0), 0);
        x.see(0, 2);
        x.see(1, 9);
        x.see(2, 9);
        Due.is("rates(0)", x.rates(0), 0);
        Due.is("forget(3)", x.forget(3), 3);
        Due.is("forget(4)", x.forget(4), TokenDoors.BAD);
        Due.is("forget(1): the first stays", x.forget(1), 3);
        Due.is("rates(0)", x.rates(0), 1023);
        Due.is("count(0)", x.count(0), 1);
    }

    private static void fitting() {
        TokenDoors x = Due.told("leak 3 1;crowd 0 2 1;");
        fits(x, "none seen", 15, 1022, 1023);
        x.see(2, 1);
        fits(x, "see(2, 1)", 3, 14, 2);
        x.see(1, 2);
        fits(x, "see(1, 2)", 2, 8, 2);
        x.see(2, 1);
        fits(x, "see(2, 1) again", 2, 8, 2);
        x.see(2, 0);
        fits(x, "see(2, 0) against it", 0, 0, 0);
        for (int d = -1; d <= 1; d += 2) {
            Due.is("kinds(" + d + ")", x.kinds(d), TokenDoors.BAD);
            Due.is("depths(" + d + ")", x.depths(d), TokenDoors.BAD);
            Due.is("rates(" + d + ")", x.rates(d), TokenDoors.BAD);
        }
        TokenDoors y = Due.told("token 5 0;crowd 40 9 0;");
        y.see(40, 4);
        fits(y, "DEPTH as by alter()", 0, 16, 0);
    }

    private static void fits(TokenDoors x, String behind, int kinds, int depths, int rates) {
        Due.is(behind + ": kinds(0)", x.kinds(0), kinds);
        Due.is(behind + ": depths(0)", x.depths(0), depths);
        Due.is(behind + ": rates(0)", x.rates(0), rates);
    }

    private static void fromNowOn() {
        TokenDoors x = Due.told("leak 3 1;crowd 0 2 1;");
        x.see(0, 2);
        Due.is("kinds(0)", x.kinds(0), 14);
        x.ticks(2);
        Due.is("kinds(0) behind two TICKS", x.kinds(0), 1);
    }

    private static void asking() {
        TokenDoors x = Due.told("leak 3 1;crowd 0 2 1;");
        ask(x, 2, 8);
        x.see(2, 2);
        ask(x, TokenDoors.NONE, TokenDoors.NONE);
        x.forget(0);
        x.see(2, 1);
        ask(x, TokenDoors.NONE, TokenDoors.NONE);
        x.see(2, 0);
        ask(x, TokenDoors.NONE, TokenDoors.NONE);
        for (int v = 0; v <= 9; v++) {
            TokenDoors y = Due.told("token 9 5;crowd 0 9 1;");
            ask(y, 1, 1);
            y.see(1, v);
            Due.is("rates(0)", y.rates(0), 1 << v);
            ask(y, TokenDoors.NONE, TokenDoors.NONE);
        }
        ask(Due.told("token 9 5;crowd 0 9 0;crowd 40 9 0;"), 40, 9);
        ask(Due.told("token 9 5;crowd 0 9 0;crowd 41 9 0;"), TokenDoors.NONE, TokenDoors.NONE);
        int[][] bad = {{-1, 0}, {1, 0}, {0, -1}, {0, 2}};
        for (int[] b : bad) {
            Due.is("ask(" + b[0] + ", " + b[1] + ")", x.ask(b[0], b[1]), TokenDoors.BAD);
        }
    }

    private static void ask(TokenDoors x, int tick, int left) {
        String before = Due.state(x);
        Due.is("ask(0, 0)", x.ask(0, 0), tick);
        Due.is("ask(0, 1)", x.ask(0, 1), left);
        Due.holds("ask() changes nothing", Due.state(x).equals(before));
    }
}
