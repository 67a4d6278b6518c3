/** Promises 36 to 42: keep, back, sheet, lay, read, torn, count. */
public final class SheetTest {
    public static void main(String[] args) {
        images();
        sheets();
        laying();
        reading();
        readingTorn();
        readingNone();
        readingRefused();
        readingFull();
        tornOfTheLatest();
        counting();
        Due.finish();
    }

    private static void images() {
        TokenDoors x = Due.told("token 5 2;leak 4 3;crowd 0 5 2;");
        Due.is("keep(-1)", x.keep(-1), TokenDoors.BAD);
        Due.is("keep(2)", x.keep(2), TokenDoors.BAD);
        Due.is("back(-1)", x.back(-1), TokenDoors.BAD);
        Due.is("back(2)", x.back(2), TokenDoors.BAD);
        Due.is("back(0) of none", x.back(0), TokenDoors.STATE);
        x.ticks(3);
        x.see(0, 1);
        x.sheet(0, 0, 3);
        String third = Due.hall(x);
        Due.is("keep(0)", x.keep(0), 0);
        Due.is("back(1) of none", x.back(1), TokenDoors.STATE);
        x.ticks(4);
        x.alter(0, 0, 3);
        x.hang(2, 9, 9);
        x.leave(0);
        x.come(1, 1, 1);
        x.come(2, 2, 2);
        String seventh = Due.hall(x);
        Due.is("keep(1)", x.keep(1), 0);
        Due.holds("keep() changes nothing", Due.hall(x).equals(seventh));
        Due.is("back(0)", x.back(0), 3);
        Due.holds("all is as IMAGE 0", Due.hall(x).equals(third));
        Due.is("rule(4)", x.rule(4), 2);
        x.pass();
        x.cut(0);
        Due.is("back(1)", x.back(1), 7);
        Due.holds("all is as IMAGE 1", Due.hall(x).equals(seventh));
        Due.is("SEEN stays", x.count(0), 1);
        Due.is("SHEETS stay", x.count(3), 3);
        Due.is("IMAGE 0 is there still", x.back(0), 3);
        Due.is("keep(0) again", x.keep(0), 1);
        x.ticks(1);
        Due.is("keep(0) anew", x.keep(0), 1);
        Due.is("back(0) to the newer", x.back(0), 4);
    }

    private static void sheets() {
        TokenDoors x = new TokenDoors();
        int[][] bad = {{-1, 0, 1}, {4, 0, 1}, {0, -1, 1}, {0, 3, 1}, {0, 0, 41}, {-1, 0, -1}, {0, 3, -1}, {0, 0, Integer.MAX_VALUE}};
        for (int[] b : bad) {
            Due.is("sheet(" + b[0] + ", " + b[1] + ", " + b[2] + ")", x.sheet(b[0], b[1], b[2]), TokenDoors.BAD);
        }
        Due.is("sheet(0, 0, -1)", x.sheet(0, 0, -1), -14);
        Due.is("count(3)", x.count(3), TokenDoors.NONE);
        Due.is("sheet(0, 0, 0)", x.sheet(0, 0, 0), 1);
        Due.is("count(3)", x.count(3), 0);
        Due.is("sheet(0, 1, 40)", x.sheet(0, 1, 40), 1);
        Due.is("sheet(0, 2, -1)", x.sheet(0, 2, Integer.MIN_VALUE), -14);
        Due.is("count(3): the row stays", x.count(3), 40);
        Due.is("lay(0, 39, 1)", x.lay(0, 39, 1), 1);
        Due.is("sheet(0, 2, 3)", x.sheet(0, 2, 3), 1);
        x.lay(0, 0, 1);
        x.lay(0, 1, 2);
        x.lay(0, 2, 3);
        Due.is("sheet(0, 2, 3): a new row of 0", x.sheet(0, 2, 3), 1);
        Due.is("read of a new row", x.read(0, 2, 0, 1), -20);
        x.lay(0, 1, 2);
        Due.is("read", x.read(0, 2, 0, 1), 1);
        Due.is("crowd(0, 0)", x.crowd(0, 0), 0);
        Due.is("crowd(0, 2)", x.crowd(0, 2), 0);
    }

    private static void laying() {
        TokenDoors x = new TokenDoors();
        Due.is("lay(-1, 0, 0)", x.lay(-1, 0, 0), TokenDoors.BAD);
        Due.is("lay(4, 0, 0)", x.lay(4, 0, 0), TokenDoors.BAD);
        Due.is("lay(3, -1, 0): NULL is found ahead of INDEX", x.lay(3, -1, 0), -11);
        int[] outside = {-1, 3, Integer.MIN_VALUE, Integer.MAX_VALUE};
        for (int lane = 0; lane <= 2; lane++) {
            x.sheet(lane, lane, 3);
            for (int i : outside) {
                Due.is("lay(" + lane + ", " + i + ", 0)", x.lay(lane, i, 0), -12);
            }
        }
        // The lowest bits of each number are a TICK of 5, MANY of 1 and EVERY of 2 in that lane alone.
        int[][] rows = {{256 + 5, -255, 0x10002}, {65536 + 5, -65535, 0x70002}, {5, 1, 2}};
        for (int lane = 0; lane <= 2; lane++) {
            for (int i = 0; i < 3; i++) {
                Due.is("lay(" + lane + ", " + i + ", " + rows[lane][i] + ")", x.lay(lane, i, rows[lane][i]), 1);
            }
            Due.is("read of lane " + lane, x.read(lane, lane, 0, 1), 1);
            for (int what = 0; what <= 2; what++) {
                Due.is("crowd(" + lane + ", " + what + ")", x.crowd(lane, what), rows[2][what]);
            }
        }
        x.lay(0, 0, 128 + 5);
        Due.is("the highest of the lowest bits is a sign", x.read(0, 0, 0, 1), -20);
        x.lay(1, 0, 128);
        Due.is("a short holds 128", x.read(1, 1, 0, 1), -20);
    }

    /** An object with a sheet 0 of a lane that has these cells. */
    private static TokenDoors laid(int lane, int... cells) {
        TokenDoors x = new TokenDoors();
        x.sheet(0, lane, cells.length);
        for (int i = 0; i < cells.length; i++) {
            x.lay(0, i, cells[i]);
        }
        return x;
    }

    private static void reading() {
        TokenDoors x = laid(1, 7, 0, 1, 1, 99, 9, 9, 5, 5, 5);
        x.come(3, 3, 3);
        Due.is("read(-1, 1, 1, 1)", x.read(-1, 1, 1, 1), TokenDoors.BAD);
        Due.is("read(4, 1, 1, 1)", x.read(4, 1, 1, 1), TokenDoors.BAD);
        Due.is("read(0, -1, 1, 1)", x.read(0, -1, 1, 1), TokenDoors.BAD);
        Due.is("read(0, 3, 1, 1)", x.read(0, 3, 1, 1), TokenDoors.BAD);
        Due.is("read(0, 1, 1, -1)", x.read(0, 1, 1, -1), TokenDoors.BAD);
        Due.is("read(0, 1, 1, 14)", x.read(0, 1, 1, 14), TokenDoors.BAD);
        Due.is("read(0, 1, 1, 0)", x.read(0, 1, 1, 0), 0);
        Due.is("read(0, 1, 1, 3)", x.read(0, 1, 1, 3), 3);
        int[] cells = {3, 3, 3, 0, 1, 1, 99, 9, 9, 5, 5, 5};
        for (int i = 0; i < cells.length; i++) {
            Due.is("crowd(" + i / 3 + ", " + i % 3 + ")", x.crowd(i / 3, i % 3), cells[i]);
        }
        Due.is("torn()", x.torn(), 0);
    }

    private static void readingTorn() {
        TokenDoors x = laid(0, 0, 1, 1, 2, 2, 2, 3, 3);
        Due.is("the third is not whole", x.read(0, 0, 0, 3), 2);
        Due.is("INDEX", x.torn(), 2);
        Due.is("those that were whole ahead came", x.rule(1), 2);
        Due.is("of another lane", x.read(0, 1, 0, 3), 0);
        Due.is("CAST", x.torn(), 3);
        Due.is("CAST is found ahead of INDEX", x.read(0, 2, -5, 3) * 10 + x.torn(), 3);
        Due.is("of nothing", x.read(1, 1, -1, 3), 0);
        Due.is("NULL", x.torn(), 1);
        int[] outside = {-1, 6, 7, 8, 40, Integer.MIN_VALUE, Integer.MAX_VALUE - 2, Integer.MAX_VALUE};
        for (int f : outside) {
            x.read(1, 1, 0, 1);
            Due.is("read(0, 0, " + f + ", 2)", x.read(0, 0, f, 2), 0);
            Due.is("INDEX", x.torn(), 2);
        }
        Due.is("rule(1)", x.rule(1), 2);
        Due.is("a row of nothing", x.sheet(2, 2, 0), 1);
        Due.is("read of it", x.read(2, 2, 0, 1), 0);
        Due.is("INDEX", x.torn(), 2);
    }

    /** Of 0 CROWDS no CELL is touched: there is no FAULT, and one that was found before is gone. */
    private static void readingNone() {
        TokenDoors x = laid(0, 0, 1, 1);
        x.sheet(2, 2, 0);
        int[][] none = {{0, 0, 0}, {0, 0, -1}, {0, 0, 99}, {0, 1, 0}, {0, 2, -1}, {1, 0, 0}, {2, 2, 0}, {2, 0, 99}};
        for (int[] r : none) {
            x.read(0, 1, 0, 1);
            Due.is("CAST", x.torn(), 3);
            String call = "read(" + r[0] + ", " + r[1] + ", " + r[2] + ", 0)";
            Due.is(call, x.read(r[0], r[1], r[2], 0), 0);
            Due.is("torn() behind " + call, x.torn(), 0);
        }
        Due.is("rule(1)", x.rule(1), 0);
        x.read(0, 1, 0, 1);
        Due.is("read(0, 3, 0, 0)", x.read(0, 3, 0, 0), TokenDoors.BAD);
        Due.is("read(4, 0, 0, 0)", x.read(4, 0, 0, 0), TokenDoors.BAD);
        Due.is("torn() behind BAD", x.torn(), 3);
    }

    private static void readingRefused() {
        TokenDoors x = laid(2, 0, 1, 1, 2, 2, 2, 3, 0, 3, 4, 4);
        x.come(9, 9, 9);
        String before = Due.state(x);
        Due.is("the third is refused, the fourth is not met", x.read(0, 2, 0, 4), -22);
        Due.is("the third alone", x.read(0, 2, 6, 1), -20);
        Due.holds("then none came", Due.state(x).equals(before));
        Due.is("two", x.read(0, 2, 0, 2), 2);
        int[][] bad = {{-1, 1, 1}, {100, 1, 1}, {0, 0, 1}, {0, 10, 1}, {0, 1, -1}, {0, 1, 10}};
        for (int[] b : bad) {
            Due.is("read of " + b[0] + " " + b[1] + " " + b[2], laid(2, b).read(0, 2, 0, 1), -20);
        }
    }

    private static void readingFull() {
        int[] cells = new int[39];
        java.util.Arrays.fill(cells, 1);
        TokenDoors x = laid(0, cells);
        Due.is("the 9th is refused", x.read(0, 0, 0, 13), -28);
        Due.is("rule(1)", x.rule(1), 0);
        Due.is("eight", x.read(0, 0, 0, 8), 8);
        Due.is("one more", x.read(0, 0, 0, 1), -20);
        Due.is("one more that is not whole", x.read(0, 0, 37, 1), 0);
        Due.is("INDEX", x.torn(), 2);
        x.leave(7);
        Due.is("one whole, one not", x.read(0, 0, 36, 2), 1);
        Due.is("rule(1)", x.rule(1), 8);
    }

    private static void tornOfTheLatest() {
        TokenDoors x = laid(0, 0, 1, 1, 0, 0, 0);
        x.read(3, 0, 0, 1);
        Due.is("torn()", x.torn(), 1);
        x.read(0, 0, 0, 14);
        Due.is("torn() behind BAD", x.torn(), 1);
        Due.is("a refused read", x.read(0, 0, 0, 2), -21);
        Due.is("torn() behind it", x.torn(), 1);
        x.text();
        Due.is("torn() behind a text", x.torn(), 1);
        x.read(0, 0, 0, 1);
        Due.is("torn() behind a whole read", x.torn(), 0);
    }

    private static void counting() {
        TokenDoors x = Due.told("token 5 2;leak 9 3;crowd 0 3 2;crowd 5 9 2;crowd 0 1 0;");
        x.see(1, 1);
        x.see(1, 2);
        x.keep(1);
        x.sheet(0, 2, 17);
        x.sheet(1, 2, 18);
        Due.feed(x, "leak");
        int[] due = {2, 1, 4, 17, 14, 13};
        for (int what = 0; what <= 5; what++) {
            Due.is("count(" + what + ")", x.count(what), due[what]);
        }
        x.keep(1);
        Due.is("count(1)", x.count(1), 1);
        x.keep(0);
        Due.is("count(1)", x.count(1), 2);
        Due.is("count(-1)", x.count(-1), TokenDoors.BAD);
        Due.is("count(6)", x.count(6), TokenDoors.BAD);
    }
}
