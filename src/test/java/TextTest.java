/** Promises 1 to 8: a new object, feed, end, text, fault, rule, door, crowd. */
public final class TextTest {
    public static void main(String[] args) {
        newObject();
        feeding();
        ending();
        textsTaken();
        textsFaulty();
        textTellsAll();
        faultOfTheLatest();
        rules();
        doors();
        crowds();
        Due.finish();
    }

    private static void newObject() {
        TokenDoors x = new TokenDoors();
        for (int what = 0; what <= 6; what++) {
            Due.is("new: rule(" + what + ")", x.rule(what), 0);
        }
        Due.is("new: fault()", x.fault(), 0);
        Due.is("new: torn()", x.torn(), 0);
        Due.is("new: door(0, 0)", x.door(0, 0), TokenDoors.BAD);
        Due.is("new: crowd(0, 0)", x.crowd(0, 0), TokenDoors.BAD);
        Due.is("new: count(3)", x.count(3), TokenDoors.NONE);
        for (int k = 0; k < 4; k++) {
            Due.is("new: lay(" + k + ", 0, 0)", x.lay(k, 0, 0), -11);
        }
        Due.is("new: back(0)", x.back(0), TokenDoors.STATE);
        Due.is("new: text() of an empty tape", x.text(), 0);
    }

    private static void feeding() {
        TokenDoors x = new TokenDoors();
        Due.is("feed(-1)", x.feed(-1), TokenDoors.BAD);
        Due.is("feed(128)", x.feed(128), TokenDoors.BAD);
        Due.is("feed(0)", x.feed(0), 1);
        Due.is("feed(127)", x.feed(127), 2);
        for (int i = 3; i <= 160; i++) {
            Due.is("feed(32)", x.feed(32), i);
        }
        Due.is("feed of the 161st", x.feed(32), TokenDoors.FULL);
        Due.is("a full tape and a wrong byte", x.feed(200), TokenDoors.BAD);
        Due.is("count(2)", x.count(2), 160);
        Due.is("text() whose first byte is no token", x.text(), -10);
        Due.is("fault()", x.fault(), 1);
        Due.is("count(2) behind text()", x.count(2), 0);
    }

    private static void ending() {
        TokenDoors x = new TokenDoors();
        Due.feed(x, "leak 3 1;x");
        Due.is("end(-1)", x.end(-1), TokenDoors.BAD);
        Due.is("end(11)", x.end(11), TokenDoors.BAD);
        Due.is("end(10)", x.end(10), 10);
        Due.is("end(9)", x.end(9), 10);
        Due.is("count(2)", x.count(2), 9);
        Due.is("text()", x.text(), 1);
        ended(x, "tokenx", 5, -15, 2);
        ended(x, "leak 1 12", 8, -18, 2);
        ended(x, "leak   ", 5, -15, 2);
        Due.is("end(0)", x.end(0), 0);
        Due.is("end(1) of nothing", x.end(1), TokenDoors.BAD);
    }

    /** What was on the tape behind its end is not read. */
    private static void ended(TokenDoors x, String bytes, int n, int answer, int fault) {
        Due.feed(x, bytes);
        Due.is("end(" + n + ")", x.end(n), bytes.length());
        Due.is("text() of the first " + n + " of '" + bytes + "'", x.text(), answer);
        Due.is("fault()", x.fault(), fault);
    }

    private static void textsTaken() {
        Due.text("", 0, 0);
        Due.text("   ", 0, 0);
        Due.text("token 1 0;", 1, 0);
        Due.text("token1 0;", 1, 0);
        Due.text("  half  09   09 ;  ", 1, 0);
        Due.text("crowd 99 9 9;crowd 0 1 0;", 2, 0);
        Due.text("crowd 00 01 00;", 1, 0);
        Due.text("leak 1 1;leak 1 1;leak 1 1;leak 1 1;", 4, 0);
        Due.text("crowd1 1 1;crowd1 1 1;crowd1 1 1;crowd1 1 1;crowd1 1 1;crowd1 1 1;crowd1 1 1;crowd1 1 1;", 8, 0);
    }

    private static void textsFaulty() {
        Due.text("Token 1 1;", -10, 1);
        Due.text("\ttoken 1 1;", -10, 1);
        Due.text("token 1,1;", -17, 1);
        Due.text("token 111 1;", -16, 1);
        Due.text("token 1 001;", -18, 1);
        Due.text("100", -10, 1);
        Due.text("token 0 100;", -16, 3);
        Due.text("x100;", -10, 2);
        Due.text("; ", -10, 2);
        Due.text(" 12;", -11, 2);
        Due.text("tokens 1 1;", -10, 2);
        Due.text("toke 1 1;", -10, 2);
        Due.text("xoken 1 1;", -10, 2);
        Due.text("az 1 1;", -10, 2);
        Due.text("z 1 1;", -10, 2);
        Due.text("token a 1;", -16, 2);
        Due.text("token `1;", -16, 1);
        Due.text("token {1;", -16, 1);
        Due.text("token /1;", -16, 1);
        Due.text("token :1;", -16, 1);
        Due.text("tokenleak 1 1;", -10, 2);
        Due.text("token leak 1 1;", -16, 2);
        Due.text("token;", -15, 2);
        Due.text("token", -15, 2);
        Due.text("token  ", -17, 2);
        Due.text("token 1", -17, 2);
        Due.text("token 1 1 ", -20, 2);
        Due.text("token 1 1 half", -20, 2);
        Due.text("token 1 1;;", -20, 2);
        Due.text("crowd 1 1 1 1;", -22, 2);
        Due.text("crowd 1 1", -19, 2);
        Due.text("crowd", -15, 2);
        Due.text("crowd;", -15, 2);
        Due.text("crowd x 1 1;", -16, 2);
        Due.text("crowd 100 1 1;", -16, 1);
        Due.text("crowd 1 ; 1;", -18, 2);
        Due.text("leak 0 1;", -15, 3);
        Due.text("leak 10 1;", -15, 3);
        Due.text("window 1 10;", -19, 3);
        Due.text("half 1 99;", -17, 3);
        Due.text("crowd 99 0 1;", -19, 3);
        Due.text("crowd 99 10 1;", -19, 3);
        Due.text("crowd 99 9 10;", -21, 3);
        Due.text("leak1 1;leak1 1;leak1 1;leak1 1; half 0 0;", -43, 5);
        Due.text("leak1 1;leak1 1;leak1 1;leak1 1; halb 0 0;", -43, 2);
        Due.text("crowd1 1 1;crowd1 1 1;crowd1 1 1;crowd1 1 1;crowd1 1 1;crowd1 1 1;crowd1 1 1;crowd1 1 1; crowd", -99, 5);
    }

    private static void textTellsAll() {
        TokenDoors x = Due.told("leak 3 1;crowd 0 2 1;");
        x.ticks(2);
        x.see(0, 1);
        x.keep(0);
        x.keep(1);
        x.sheet(0, 1, 7);
        String before = Due.state(x);
        Due.is("a faulty text", Due.tell(x, "token 2 2;token 0 2;"), -26);
        Due.is("its fault", x.fault(), 3);
        Due.is("the tape is empty", x.count(2), 0);
        Due.is("an empty end", x.end(0), 0);
        Due.holds("a faulty text changes nothing but its fault", Due.state(x).equals(before.replaceAll("0 0$", "3 0")));
        Due.is("a text", Due.tell(x, "crowd 5 4 3;"), 1);
        Due.is("fault()", x.fault(), 0);
        int[] rules = {0, 1, 0, 0, 0, 0, 0};
        for (int what = 0; what <= 6; what++) {
            Due.is("rule(" + what + ") behind a text", x.rule(what), rules[what]);
        }
        Due.is("nothing is SEEN", x.count(0), 0);
        Due.is("IMAGES are gone", x.count(1), 0);
        Due.is("back(0)", x.back(0), TokenDoors.STATE);
        Due.is("back(1)", x.back(1), TokenDoors.STATE);
        Due.is("SHEETS stay", x.count(3), 7);
        Due.is("an empty text tells all too", x.text(), 0);
        Due.is("no CROWDS", x.rule(1), 0);
    }

    private static void faultOfTheLatest() {
        TokenDoors x = new TokenDoors();
        Due.is("fault() ahead of any text", x.fault(), 0);
        Due.tell(x, "1");
        Due.is("fault()", x.fault(), 2);
        Due.is("fault() again", x.fault(), 2);
        x.text();
        Due.is("fault() of a text that is taken", x.fault(), 0);
    }

    private static void rules() {
        TokenDoors x = Due.told("token 2 1;leak 1 0;crowd 1 2 3;crowd 4 1 0;crowd 1 1 0;");
        int[] first = {2, 3, 0, 0, 0, 0, 3};
        int[] second = {2, 3, 1, 0, 0, 3, 3};
        int[] third = {2, 3, 2, 1, 2, 0, 1};
        int[] fifth = {2, 3, 4, 1, 2, 3, 1};
        int[][] due = {first, second, third, null, fifth};
        for (int t = 0; t < due.length; t++) {
            for (int what = 0; due[t] != null && what <= 6; what++) {
                Due.is("in tick " + t + " rule(" + what + ")", x.rule(what), due[t][what]);
            }
            x.ticks(1);
        }
        Due.is("rule(-1)", x.rule(-1), TokenDoors.BAD);
        Due.is("rule(7)", x.rule(7), TokenDoors.BAD);
        x.cut(1);
        x.alter(0, 3, 0);
        Due.is("rule(6) of a token door that holds nothing", x.rule(6), 0);
    }

    private static void doors() {
        TokenDoors x = Due.told("token 5 2;leak 4 3;window 6 4;half 7 0;");
        x.pass();
        x.pass();
        int[][] due = {{0, 5, 2, 3, 3}, {1, 4, 3, 2, 2}, {2, 6, 4, 2, 4}, {3, 7, 0, 2, 5}};
        for (int d = 0; d < 4; d++) {
            for (int what = 0; what <= 4; what++) {
                Due.is("door(" + d + ", " + what + ")", x.door(d, what), due[d][what]);
            }
        }
        Due.is("door(-1, 0)", x.door(-1, 0), TokenDoors.BAD);
        Due.is("door(4, 0)", x.door(4, 0), TokenDoors.BAD);
        Due.is("door(0, -1)", x.door(0, -1), TokenDoors.BAD);
        Due.is("door(0, 5)", x.door(0, 5), TokenDoors.BAD);
        x.cut(2);
        Due.is("door(2, 0) that was cut", x.door(2, 0), TokenDoors.BAD);
    }

    private static void crowds() {
        TokenDoors x = Due.told("crowd 99 1 0;crowd 7 8 9;");
        int[][] due = {{99, 1, 0}, {7, 8, 9}};
        for (int i = 0; i < 2; i++) {
            for (int what = 0; what <= 2; what++) {
                Due.is("crowd(" + i + ", " + what + ")", x.crowd(i, what), due[i][what]);
            }
        }
        Due.is("crowd(-1, 0)", x.crowd(-1, 0), TokenDoors.BAD);
        Due.is("crowd(2, 0)", x.crowd(2, 0), TokenDoors.BAD);
        Due.is("crowd(0, -1)", x.crowd(0, -1), TokenDoors.BAD);
        Due.is("crowd(0, 3)", x.crowd(0, 3), TokenDoors.BAD);
    }
}
