/** Boundaries of THE TAPE, its TOKENS, lines and FAULTS, as the document's terms name them. */
public final class TapeEdgesTest {
    private static final String[] KINDS = {"token", "leak", "window", "half"};
    private static final String FOUR = "leak1 1;leak1 1;leak1 1;leak1 1;";
    private static final String EIGHT = "crowd1 1 1;".repeat(8);

    public static void main(String[] args) throws Exception {
        Edges.run(TapeEdgesTest.class);
    }

    @Sentence(promise = 0, says = "THE TAPE has 160 bytes, places from 0.")
    static void termsTapeHas160Bytes() {
        String blanks = " ".repeat(152);
        Due.text(blanks + "leak1 1;", 1, 0);
        Due.text(blanks + "leak1 1,", -10 - 159, 1);
        Due.text(blanks + "leak 1 1;", -10 - 160, 2);
        Due.text("," + blanks, -10, 1);
    }

    @Sentence(promise = 0, says = "TOKENS, each as long as may be")
    static void termsTokensAsLongAsMayBe() {
        Due.text("tokenleak 1 1;", -10, 2);
        Due.text("leakcrowd 1 1;", -10, 2);
        Due.text("leak 11;", -15, 3);
        Due.text("leak 111;", -15, 1);
        Due.text("crowd 991 1;", -16, 1);
        Due.text("a".repeat(160), -10, 2);
        Due.text("1".repeat(160), -10, 1);
        Due.text("0".repeat(160), -10, 1);
    }

    @Sentence(promise = 0, says = "blanks (32) between")
    static void termsBlanks32Between() {
        Due.text("   leak   1   1   ;   ", 1, 0);
        Due.text("leak1 1;leak1 1;", 2, 0);
        Due.text(" ".repeat(160), 0, 0);
        for (char c : new char[] {0, 9, 10, 13, 31, 33, 95, 127}) {
            Due.text(c + "leak 1 1;", -10, 1);
            Due.text("leak" + c + "1 1;", -14, 1);
            Due.text("leak 1" + c + "1;", -16, 1);
            Due.text("leak 1 1" + c + ";", -18, 1);
            Due.text("leak 1 1;" + c, -19, 1);
        }
    }

    @Sentence(promise = 0, says = "NAMES (a .. z)")
    static void termsNamesAToZ() {
        Due.text("a 1 1;", -10, 2);
        Due.text("z 1 1;", -10, 2);
        Due.text("leaka 1 1;", -10, 2);
        Due.text("leakz 1 1;", -10, 2);
        for (char c : new char[] {'a' - 1, 'z' + 1, 'A', 'Z', 'A' - 1, 'Z' + 1}) {
            Due.text(c + " 1 1;", -10, 1);
            Due.text("leak" + c + "1 1;", -14, 1);
        }
        Due.text("Leak 1 1;", -10, 1);
        Due.text("leaK 1 1;", -10, 2);
    }

    @Sentence(promise = 0, says = "NUMBERS (1 or 2 figures)")
    static void termsNumbers1Or2Figures() {
        Due.text("leak 9 9;", 1, 0);
        Due.text("leak 09 09;", 1, 0);
        Due.text("leak 009 9;", -15, 1);
        Due.text("leak 9 009;", -17, 1);
        Due.text("crowd 000 1 1;", -16, 1);
        Due.is("crowd(0, 0) of 00", Due.told("crowd 00 01 00;").crowd(0, 0), 0);
        Due.is("crowd(0, 0) of 09", Due.told("crowd 09 01 00;").crowd(0, 0), 9);
        Due.is("crowd(0, 0) of 90", Due.told("crowd 90 01 00;").crowd(0, 0), 90);
        for (char c : new char[] {'0' - 1, '9' + 1}) {
            Due.text("leak " + c + " 1;", -15, 1);
            Due.text("leak 1" + c + " 1;", -16, 1);
        }
    }

    @Sentence(promise = 0, says = "one ; .")
    static void termsOneSemicolon() {
        Due.text("leak 1 1;", 1, 0);
        Due.text("leak 1 1;;", -19, 2);
        Due.text("leak 1 1 1;", -19, 2);
        Due.text("leak 1 1:", -18, 1);
        Due.text("leak 1 1<", -18, 1);
        Due.text(";", -10, 2);
    }

    @Sentence(promise = 0, says = "text: { line }")
    static void termsTextOfNoLine() {
        Due.text("", 0, 0);
        Due.text(" ", 0, 0);
        Due.text("leak 1 1;", 1, 0);
        Due.text(FOUR + EIGHT, 12, 0);
    }

    @Sentence(promise = 0, says = "line: K N N ; | crowd N N N ;")
    static void termsLineOfSoManyNumbers() {
        for (String kind : KINDS) {
            int behind = -10 - kind.length();
            Due.text(kind + ";", behind, 2);
            Due.text(kind + " 1;", behind - 2, 2);
            Due.text(kind + " 1 1;", 1, 0);
            Due.text(kind + " 1 1 1;", behind - 5, 2);
        }
        Due.text("crowd;", -15, 2);
        Due.text("crowd 1;", -17, 2);
        Due.text("crowd 1 1;", -19, 2);
        Due.text("crowd 1 1 1;", 1, 0);
        Due.text("crowd 1 1 1 1;", -22, 2);
    }

    @Sentence(promise = 0, says = "K: token | leak | window | half")
    static void termsKindsNames() {
        for (int kind = 0; kind <= 3; kind++) {
            String name = KINDS[kind];
            Due.is("door(0, 0) of " + name, Due.told(name + " 1 1;").door(0, 0), kind);
            Due.text(name + "s 1 1;", -10, 2);
            Due.text(name.substring(1) + " 1 1;", -10, 2);
            Due.text(name.substring(0, name.length() - 1) + " 1 1;", -10, 2);
            everyLetterCounts(name, " 1 1;");
        }
        Due.text("crow 1 1 1;", -10, 2);
        Due.text("crowds 1 1 1;", -10, 2);
        everyLetterCounts("crowd", " 1 1 1;");
    }

    private static void everyLetterCounts(String name, String behind) {
        for (int i = 0; i < name.length(); i++) {
            Due.text(name.substring(0, i) + 'z' + name.substring(i + 1) + behind, -10, 2);
        }
    }

    @Sentence(promise = 0, says = "K: a DOOR more of that KIND: DEPTH, RATE. crowd: a CROWD more: TICK, MANY, EVERY.")
    static void termsNumbersByOrder() {
        TokenDoors x = Due.told("half 9 0;token 1 9;crowd 99 1 9;crowd 0 9 0;");
        int[][] doors = {{3, 9, 0}, {0, 1, 9}};
        int[][] crowds = {{99, 1, 9}, {0, 9, 0}};
        for (int i = 0; i <= 1; i++) {
            for (int what = 0; what <= 2; what++) {
                Due.is("door(" + i + ", " + what + ")", x.door(i, what), doors[i][what]);
                Due.is("crowd(" + i + ", " + what + ")", x.crowd(i, what), crowds[i][what]);
            }
        }
    }

    @Sentence(promise = 0, says = "FAULTS, the first met as it is read (a TOKEN is read when the one before has been taken)")
    static void termsTheFirstFaultMet() {
        Due.text("leak 0 111;", -15, 3);
        Due.text("leak 0,", -15, 3);
        Due.text("leak 0", -15, 3);
        Due.text("leak ; 0;", -15, 2);
        Due.text("leak 111 0;", -15, 1);
        Due.text("gate,", -10, 2);
        Due.text("gate 111", -10, 2);
        Due.text("111 gate", -10, 1);
        Due.text(FOUR + "leak,", -10 - 32, 5);
        Due.text(FOUR + "leak 0", -10 - 32, 5);
        Due.text(FOUR + "leak", -10 - 32, 5);
        Due.text(FOUR + "leaf 0", -10 - 32, 2);
        Due.text(FOUR + ",leak", -10 - 32, 1);
        Due.text("leak 10 1;" + FOUR, -15, 3);
        Due.text("leak 1 1;leak 0 1;gate", -10 - 14, 3);
    }

    @Sentence(promise = 0, says = "1 no TOKEN, a NUMBER that is too long (its first byte).")
    static void termsFault1() {
        Due.text(",", -10, 1);
        Due.text("leak 1 1;  ,", -10 - 11, 1);
        Due.text("leak ,", -15, 1);
        Due.text("leak 1 1 ,", -19, 1);
        Due.text("leak 1 -1;", -17, 1);
        Due.text("  100", -12, 1);
        Due.text("leak 100 1;", -15, 1);
        Due.text("leak 1  100;", -18, 1);
        Due.text("leak 1 1 100;", -19, 1);
        Due.text("crowd 1 100 1;", -18, 1);
        Due.text("crowd 1 1 100;", -20, 1);
    }

    @Sentence(promise = 0, says = "2 a TOKEN that can not stand there (a NAME that begins no line; or the end: the length).")
    static void termsFault2() {
        Due.text("gate", -10, 2);
        Due.text("leak 1 1; gate", -20, 2);
        Due.text("leak leak 1 1;", -15, 2);
        Due.text("leak 1 leak 1;", -17, 2);
        Due.text("1", -10, 2);
        Due.text("99 1;", -10, 2);
    }

    @Sentence(promise = 0, says = "or the end: the length")
    static void termsFault2AtTheEndIsTheLength() {
        String line = "crowd 1 1 1";
        int[] ends = {5, 6, 7, 8, 9, 10, 11};
        for (int n : ends) {
            Due.text(line.substring(0, n), -10 - n, 2);
        }
        Due.text(line + "   ", -10 - 14, 2);
        Due.text("leak" + " ".repeat(156), -10 - 160, 2);
        Due.text("crow", -10, 2);
    }

    @Sentence(promise = 0, says = "3 a NUMBER out of its bounds.")
    static void termsFault3() {
        Due.text("leak 0 0;", -15, 3);
        Due.text("leak 10 0;", -15, 3);
        Due.text("leak 99 0;", -15, 3);
        Due.text("leak 1 10;", -17, 3);
        Due.text("crowd 0 0 0;", -18, 3);
        Due.text("crowd 0 10 0;", -18, 3);
        Due.text("crowd 0 1 10;", -20, 3);
        Due.text("crowd 99 9 99;", -21, 3);
    }

    @Sentence(promise = 0, says = "5 the 5th DOOR, the 9th crowd (its NAME).")
    static void termsFault5() {
        Due.text(FOUR, 4, 0);
        for (String kind : KINDS) {
            Due.text(FOUR + "  " + kind + " 1 1;", -10 - 34, 5);
        }
        Due.text(EIGHT, 8, 0);
        Due.text(EIGHT + " crowd 1 1 1;", -10 - 89, 5);
        Due.text(EIGHT + FOUR + "crowd", -10 - 120, 5);
        Due.text(EIGHT + FOUR + "half", -10 - 120, 5);
        Due.text(EIGHT + "half 1 1;", 9, 0);
        Due.text(FOUR + "crowd 1 1 1;", 5, 0);
    }

    @Sentence(promise = 0, says = "A text that is taken tells all, in place of what there was; nothing is SEEN; IMAGES are gone.")
    static void termsTextTellsAll() {
        TokenDoors x = Worlds.packed();
        Due.is("text() of 160 bytes", x.text(), 2);
        int[] rules = {1, 1, 0, 0, 0, 0, 1};
        for (int what = 0; what <= 6; what++) {
            Due.is("rule(" + what + ")", x.rule(what), rules[what]);
        }
        int[] doors = {2, 4, 2, 0, 4};
        for (int what = 0; what <= 4; what++) {
            Due.is("door(0, " + what + ")", x.door(0, what), doors[what]);
        }
        Due.is("nothing is SEEN", x.count(0), 0);
        Due.is("kinds(0)", x.kinds(0), 15);
        Due.is("IMAGES are gone", x.count(1), 0);
        Due.is("back(0)", x.back(0), TokenDoors.STATE);
        Due.is("back(1)", x.back(1), TokenDoors.STATE);
        Due.is("SHEETS stay", x.count(3), 3);
    }

    @Sentence(promise = 0, says = "A text that is taken tells all, in place of what there was; nothing is SEEN; IMAGES are gone.")
    static void termsTextOfNoLineTellsAllToo() {
        TokenDoors x = Worlds.packed();
        Due.is("end(0)", x.end(0), 160);
        Due.is("text() of nothing", x.text(), 0);
        for (int what = 0; what <= 6; what++) {
            Due.is("rule(" + what + ")", x.rule(what), 0);
        }
        Due.is("nothing is SEEN", x.count(0), 0);
        Due.is("IMAGES are gone", x.count(1), 0);
    }
}
