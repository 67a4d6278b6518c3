/** Boundaries of promises 1 to 8: a new object, feed, end, text, fault, rule, door, crowd. */
public final class TextEdgesTest {
    private static final int BAD = TokenDoors.BAD, FULL = TokenDoors.FULL, NONE = TokenDoors.NONE;

    public static void main(String[] args) throws Exception {
        Edges.run(TextEdgesTest.class);
    }

    // ---- 1: a new object

    @Sentence(promise = 1, says = "No DOORS, no CROWDS")
    static void p01NoDoorsNoCrowds() {
        TokenDoors x = new TokenDoors();
        Due.is("rule(0)", x.rule(0), 0);
        Due.is("rule(1)", x.rule(1), 0);
        Due.is("door(0, 0)", x.door(0, 0), BAD);
        Due.is("crowd(0, 0)", x.crowd(0, 0), BAD);
        for (int what = 0; what <= 5; what++) {
            Due.is("count(" + what + ")", x.count(what), what == 3 ? NONE : 0);
        }
    }

    @Sentence(promise = 1, says = "SHEETS have nothing.")
    static void p01SheetsHaveNothing() {
        TokenDoors x = new TokenDoors();
        for (int k = 0; k <= 3; k++) {
            Due.is("lay(" + k + ", 0, 0)", x.lay(k, 0, 0), -11);
            for (int lane = 0; lane <= 2; lane++) {
                x.read(k, lane, 0, 0);
                Due.is("torn() ahead", x.torn(), 0);
                Due.is("read(" + k + ", " + lane + ", 0, 1)", x.read(k, lane, 0, 1), 0);
                Due.is("torn()", x.torn(), 1);
            }
        }
    }

    // ---- 2: feed

    @Sentence(promise = 2, says = "A byte (0 to 127) comes behind THE TAPE")
    static void p02Byte0To127() {
        for (int c = 0; c <= 127; c++) {
            Due.is("feed(" + c + ")", new TokenDoors().feed(c), 1);
        }
        TokenDoors x = new TokenDoors();
        Due.is("feed(0)", x.feed(0), 1);
        Due.is("feed(127)", x.feed(127), 2);
    }

    @Sentence(promise = 2, says = "how many it has.")
    static void p02HowManyItHas() {
        TokenDoors x = new TokenDoors();
        for (int i = 1; i <= 160; i++) {
            Due.is("feed of the " + i + "th", x.feed(97), i);
        }
    }

    @Sentence(promise = 2, says = "BAD; FULL: more than 160.")
    static void p02Bad() {
        TokenDoors x = new TokenDoors();
        Edges.all("feed(#)", x::feed, BAD, Edges.outside(0, 127));
        Due.is("count(2)", x.count(2), 0);
        Due.feed(x, "leak 1 1");
        Edges.all("feed(#)", x::feed, BAD, ';' + 128, ';' + 256, ';' - 256, ';' + 65536);
        Due.is("text() that has no such byte", x.text(), -18);
    }

    @Sentence(promise = 2, says = "FULL: more than 160.")
    static void p02FullMoreThan160() {
        TokenDoors x = new TokenDoors();
        for (int i = 1; i < 160; i++) {
            x.feed(32);
        }
        Due.is("feed of the 160th", x.feed(32), 160);
        Due.is("feed of a 161st", x.feed(65), FULL);
        Due.is("feed of it again", x.feed(65), FULL);
        Due.is("count(2)", x.count(2), 160);
        Due.is("end(159)", x.end(159), 160);
        Due.is("feed of the 160th again", x.feed(32), 160);
        Due.is("text(): what was refused is not there", x.text(), 0);
        Due.is("feed behind a text", x.feed(32), 1);
    }

    @Sentence(promise = 2, says = "BAD; FULL: more than 160.")
    static void p02BadAheadOfFull() {
        TokenDoors x = Worlds.packed();
        Due.is("feed(-1) of a 161st", x.feed(-1), BAD);
        Due.is("feed(128) of a 161st", x.feed(128), BAD);
        Due.is("feed(127) of a 161st", x.feed(127), FULL);
        Due.is("feed(0) of a 161st", x.feed(0), FULL);
    }

    // ---- 3: end

    @Sentence(promise = 3, says = "THE TAPE keeps its first n bytes: how many it had.")
    static void p03KeepsItsFirstN() {
        TokenDoors x = new TokenDoors();
        Due.is("end(0) of nothing", x.end(0), 0);
        Due.feed(x, "leak 1 1;leak 2 2;");
        Due.is("end(18) of 18", x.end(18), 18);
        Due.is("end(17) of 18", x.end(17), 18);
        Due.is("end(9) of 17", x.end(9), 17);
        Due.is("text()", x.text(), 1);
        Due.is("door(0, 1)", x.door(0, 1), 1);
        Due.feed(x, "leak");
        Due.is("end(0) of 4", x.end(0), 4);
        Due.is("feed behind it", x.feed('x'), 1);
        Due.is("text(): what was behind is gone", x.text(), -10);
        TokenDoors y = Worlds.packed();
        Due.is("end(160) of 160", y.end(160), 160);
        Due.is("end(1) of 160", y.end(1), 160);
        Due.is("end(1) of 1", y.end(1), 1);
    }

    @Sentence(promise = 3, says = "BAD.")
    static void p03Bad() {
        TokenDoors x = new TokenDoors();
        for (int length = 0; length <= 3; length++) {
            Edges.bounds("of " + length + " end(#)", n -> endOf(x, n), 0, length);
            Edges.all("of " + length + " end(#)", x::end, BAD, 159, 160, 161);
            x.feed(32);
        }
        Edges.all("of 160 end(#)", Worlds.packed()::end, BAD, Edges.outside(0, 160));
    }

    /** What was cut off is fed again, so that one object can be asked more than once. */
    private static long endOf(TokenDoors x, int n) {
        int answer = x.end(n);
        for (int i = x.count(2); i < answer; i++) {
            x.feed(32);
        }
        return answer;
    }

    // ---- 4: text

    @Sentence(promise = 4, says = "THE TAPE (empty then) tells all")
    static void p04TapeEmptyThen() {
        String[] texts = {"", "leak 1 1;", "leak 1 1;,", "leak", " "};
        for (String bytes : texts) {
            TokenDoors x = new TokenDoors();
            Due.tell(x, bytes);
            Due.is("count(2) behind '" + bytes + "'", x.count(2), 0);
            Due.is("end(1) behind '" + bytes + "'", x.end(1), BAD);
            Due.is("text() again behind '" + bytes + "'", x.text(), 0);
        }
    }

    @Sentence(promise = 4, says = "how many lines")
    static void p04HowManyLines0To12() {
        TokenDoors x = new TokenDoors();
        Due.is("text() of nothing", x.text(), 0);
        Due.is("text() of one", Due.tell(x, "crowd 1 1 1;"), 1);
        Due.is("text() of twelve", Due.tell(x, "leak1 1;".repeat(4) + "crowd1 1 1;".repeat(8)), 12);
        Due.is("rule(0)", x.rule(0), 4);
        Due.is("rule(1)", x.rule(1), 8);
    }

    @Sentence(promise = 4, says = "-10 less the place of its FAULT")
    static void p04Minus10LessThePlace() {
        for (int place = 0; place <= 159; place++) {
            TokenDoors x = new TokenDoors();
            Due.is("text() of a FAULT at " + place, Due.tell(x, " ".repeat(place) + "?"), -10 - place);
        }
        Due.is("text() of a FAULT at 160", Due.tell(new TokenDoors(), " ".repeat(155) + "token"), -170);
    }

    @Sentence(promise = 4, says = "that which was told stays.")
    static void p04ThatWhichWasToldStays() {
        String[] faulty = {"?", "token 2 2;?", "token 2 2;crowd 1 1 1", "leak 1 1;leak 0 1;", "leak1 1;".repeat(5)};
        for (String bytes : faulty) {
            TokenDoors x = Worlds.some();
            x.end(0);
            String before = Due.hall(x) + x.count(0) + x.count(1) + x.count(3) + x.kinds(0) + x.torn();
            Due.holds("'" + bytes + "' has a FAULT", Due.tell(x, bytes) <= -10);
            String behind = Due.hall(x) + x.count(0) + x.count(1) + x.count(3) + x.kinds(0) + x.torn();
            Due.holds("'" + bytes + "' leaves what was told", behind.equals(before));
            Due.is("back(0) behind '" + bytes + "'", x.back(0), 0);
        }
    }

    // ---- 5: fault

    @Sentence(promise = 5, says = "The FAULT of the latest text(); 0.")
    static void p05FaultOfTheLatest() {
        TokenDoors x = new TokenDoors();
        Due.is("fault() ahead of any text()", x.fault(), 0);
        String[] texts = {"?", "leak", "", "leak 0", "leak1 1;".repeat(5), "leak 1 1;", "gate"};
        int[] due = {1, 2, 0, 3, 5, 0, 2};
        for (int i = 0; i < texts.length; i++) {
            int before = i == 0 ? 0 : due[i - 1];
            Due.feed(x, texts[i]);
            Due.is("fault() ahead of text() of '" + texts[i] + "'", x.fault(), before);
            x.text();
            Due.is("fault() of '" + texts[i] + "'", x.fault(), due[i]);
        }
        x.end(0);
        x.ticks(1);
        x.read(0, 0, 0, 1);
        Due.is("fault() behind other calls", x.fault(), 2);
    }

    // ---- 6: rule

    @Sentence(promise = 6, says = "0 DOORS, 1 CROWDS, 2 TICK, 3 LET, 4 TURNED")
    static void p06LeastAndMost() {
        TokenDoors x = new TokenDoors();
        TokenDoors y = Worlds.packed();
        int[] most = {4, 8, 999};
        for (int what = 0; what <= 2; what++) {
            Due.is("rule(" + what + ") of nothing", x.rule(what), 0);
            Due.is("rule(" + what + ") of the most", y.rule(what), most[what]);
        }
        x.pass();
        x.hang(1, 1, 0);
        x.pass();
        x.pass();
        x.pass();
        Due.is("rule(3)", x.rule(3), 2);
        Due.is("rule(4)", x.rule(4), 2);
    }

    @Sentence(promise = 6, says = "5 how many come in this TICK")
    static void p06HowManyCome0To72() {
        TokenDoors x = new TokenDoors();
        Due.is("rule(5) of no CROWDS", x.rule(5), 0);
        for (int i = 1; i <= 8; i++) {
            x.come(1, 9, 9);
        }
        int[][] due = {{0, 0}, {1, 72}, {2, 0}, {9, 0}, {10, 72}, {11, 0}};
        for (int[] d : due) {
            x.ticks(d[0] - x.rule(2));
            Due.is("rule(5) in TICK " + d[0], x.rule(5), d[1]);
        }
        x.leave(7);
        x.ticks(19 - x.rule(2));
        Due.is("rule(5) of seven", x.rule(5), 63);
    }

    @Sentence(promise = 6, says = "6 DOORS that would LET one now (bits).")
    static void p06DoorsThatWouldLet0To15() {
        TokenDoors x = new TokenDoors();
        Due.is("rule(6) of no DOORS", x.rule(6), 0);
        for (int kind = 0; kind <= 3; kind++) {
            x.hang(kind, 1, 0);
        }
        for (int bits = 0; bits <= 15; bits++) {
            for (int d = 0; d <= 3; d++) {
                boolean lets = (bits >> d & 1) == 1;
                x.alter(d, 3, (d == 0) == lets ? 1 : 0);
            }
            Due.is("rule(6)", x.rule(6), bits);
        }
        x.cut(2);
        Due.is("rule(6) of two", x.rule(6), 3);
    }

    @Sentence(promise = 6, says = "BAD.")
    static void p06Bad() {
        TokenDoors x = Worlds.some();
        Edges.bounds("rule(#)", x::rule, 0, 6);
    }

    // ---- 7: door

    @Sentence(promise = 7, says = "Of a DOOR: 0 KIND, 1 DEPTH, 2 RATE, 3 what it HOLDS")
    static void p07LeastAndMost() {
        TokenDoors x = Due.told("token 1 0;half 9 9;");
        x.alter(0, 3, 0);
        x.alter(1, 3, 9);
        int[][] due = {{0, 1, 0, 0}, {3, 9, 9, 9}};
        for (int d = 0; d <= 1; d++) {
            for (int what = 0; what <= 3; what++) {
                Due.is("door(" + d + ", " + what + ")", x.door(d, what), due[d][what]);
            }
        }
    }

    @Sentence(promise = 7, says = "4 how many it would LET now, one behind another.")
    static void p07HowManyItWouldLet() {
        for (int kind = 0; kind <= 3; kind++) {
            TokenDoors x = new TokenDoors();
            x.hang(kind, 9, 0);
            for (int holds = 0; holds <= 9; holds++) {
                x.alter(0, 3, holds);
                int many = x.door(0, 4);
                Due.is("KIND " + kind + ", HOLDS " + holds + ": door(0, 4)", many, kind == 0 ? holds : 9 - holds);
                for (int i = 0; i < many; i++) {
                    Due.is("pass()", x.pass(), NONE);
                }
                Due.is("pass() of one more", x.pass(), 0);
            }
        }
    }

    @Sentence(promise = 7, says = "BAD.")
    static void p07Bad() {
        TokenDoors x = Worlds.some();
        Edges.bounds("door(#, 0)", d -> x.door(d, 0), 0, 1);
        Edges.bounds("door(1, #)", what -> x.door(1, what), 0, 4);
        TokenDoors y = Worlds.packed();
        Edges.bounds("door(#, 4)", d -> y.door(d, 4), 0, 3);
        y.cut(3);
        Due.is("door(3, 0) that was cut", y.door(3, 0), BAD);
        Due.is("door(2, 0)", y.door(2, 0), 2);
    }

    // ---- 8: crowd

    @Sentence(promise = 8, says = "Of a CROWD: 0 TICK, 1 MANY, 2 EVERY.")
    static void p08LeastAndMost() {
        TokenDoors x = Due.told("crowd 0 1 0;crowd 99 9 9;");
        int[][] due = {{0, 1, 0}, {99, 9, 9}};
        for (int i = 0; i <= 1; i++) {
            for (int what = 0; what <= 2; what++) {
                Due.is("crowd(" + i + ", " + what + ")", x.crowd(i, what), due[i][what]);
            }
        }
    }

    @Sentence(promise = 8, says = "BAD.")
    static void p08Bad() {
        TokenDoors x = Worlds.some();
        Edges.bounds("crowd(#, 0)", i -> x.crowd(i, 0), 0, 2);
        Edges.bounds("crowd(2, #)", what -> x.crowd(2, what), 0, 2);
        TokenDoors y = Worlds.packed();
        Edges.bounds("crowd(#, 2)", i -> y.crowd(i, 2), 0, 7);
        y.leave(7);
        Due.is("crowd(7, 0) that left", y.crowd(7, 0), BAD);
        Due.is("crowd(6, 0)", y.crowd(6, 0), 93);
    }
}
