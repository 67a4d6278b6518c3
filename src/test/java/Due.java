/** Counts the calls whose answer is not the one that is due, and prints each of them. */
final class Due {
    private static int wrong = 0;
    private static String topic = "";

    private Due() {
    }

    /** Names the test whose calls follow. */
    static void about(String test) {
        topic = test + ": ";
    }

    static void is(String call, long got, long want) {
        if (got != want) {
            wrong++;
            System.out.println(topic + call + " answered " + got + ", due is " + want);
        }
    }

    static void holds(String what, boolean stands) {
        if (!stands) {
            wrong++;
            System.out.println(topic + "does not hold: " + what);
        }
    }

    static int wrongs() {
        return wrong;
    }

    static void finish() {
        if (wrong != 0) {
            System.out.println(wrong + " answers are not as due");
            System.exit(1);
        }
    }

    /** Feeds a text to the tape, without reading it. */
    static void feed(TokenDoors x, String bytes) {
        for (int i = 0; i < bytes.length(); i++) {
            x.feed(bytes.charAt(i));
        }
    }

    static int tell(TokenDoors x, String bytes) {
        feed(x, bytes);
        return x.text();
    }

    /** A new object that was told a text, which must have no fault. */
    static TokenDoors told(String bytes) {
        TokenDoors x = new TokenDoors();
        int lines = tell(x, bytes);
        holds("the text is taken: " + bytes, lines >= 0);
        return x;
    }

    /** The text's answer and its fault, on an object of its own. */
    static void text(String bytes, int answer, int fault) {
        TokenDoors x = new TokenDoors();
        is("text() of '" + bytes + "'", tell(x, bytes), answer);
        is("fault() of '" + bytes + "'", x.fault(), fault);
    }

    /** DOORS, CROWDS, TICK, LET, TURNED, as one text. */
    static String hall(TokenDoors x) {
        StringBuilder all = new StringBuilder();
        for (int what = 0; what <= 6; what++) {
            all.append(x.rule(what)).append(' ');
        }
        for (int d = 0; d < 4; d++) {
            for (int what = 0; what <= 4; what++) {
                all.append(x.door(d, what)).append(' ');
            }
        }
        for (int i = 0; i < 8; i++) {
            for (int what = 0; what <= 2; what++) {
                all.append(x.crowd(i, what)).append(' ');
            }
        }
        return all.toString();
    }

    /** All that can be asked without an effect, as one text; the last two are fault() and torn(). */
    static String state(TokenDoors x) {
        StringBuilder all = new StringBuilder(hall(x));
        for (int d = 0; d < 4; d++) {
            all.append(x.kinds(d)).append(' ').append(x.depths(d)).append(' ').append(x.rates(d)).append(' ');
        }
        for (int what = 0; what <= 5; what++) {
            all.append(x.count(what)).append(' ');
        }
        return all.append(x.fault()).append(' ').append(x.torn()).toString();
    }
}
