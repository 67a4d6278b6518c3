import java.lang.reflect.Method;
import java.util.HashMap;
import java.util.Map;

/** Objects of which there is nothing, some and all that there may be, and all that can be asked of one. */
final class Worlds {
    static final String[] BARE = {};

    /** Two DOORS, three CROWDS, two SEEN, one IMAGE, two SHEETS, a TAPE that is no text, FAULTS that were found. */
    static final String[] SOME = {
        "write leak 0", "text", "hang 0 5 2", "hang 1 4 1", "come 0 3 1", "come 2 2 3", "keep 0", "come 9 9 0", "ticks 3",
        "see 0 1", "see 7 2", "sheet 0 0 6", "lay 0 0 1", "lay 0 1 2", "lay 0 2 3", "lay 0 3 4", "lay 0 4 5", "lay 0 5 6",
        "sheet 3 2 7", "lay 3 0 7", "lay 3 1 8", "lay 3 2 9", "lay 3 4 1", "lay 3 6 99", "read 3 2 6 1",
        "write half 3 1; window 2"};

    /** Four DOORS, eight CROWDS, six SEEN, both IMAGES, four SHEETS, a TAPE of 160 bytes, TICK 999. */
    static final String[] PACKED = {
        "write ;", "text", "hang 0 9 1", "hang 1 8 2", "hang 2 7 3", "hang 3 6 4", "come 99 9 1", "come 98 8 2", "come 97 7 3",
        "come 96 6 4", "come 95 5 5", "come 94 4 6", "come 93 3 7", "come 92 2 8", "keep 0", "ticks 100", "ticks 100",
        "ticks 100", "ticks 100", "ticks 100", "ticks 100", "ticks 100", "ticks 100", "ticks 100", "keep 1", "ticks 99",
        "see 0 0", "see 1 1", "see 2 1", "see 3 1", "see 4 0", "see 5 1", "sheet 0 0 3", "lay 0 0 1", "lay 0 1 2", "lay 0 2 3",
        "sheet 1 1 3", "lay 1 0 4", "lay 1 1 5", "lay 1 2 6", "sheet 2 2 3", "lay 2 0 7", "lay 2 1 8", "lay 2 2 9",
        "sheet 3 0 3", "lay 3 0 9", "lay 3 1 8", "lay 3 2 7", "read 1 2 0 1",
        "write window 4 2;crowd 5 6 7;" + " ".repeat(137)};

    private static final Map<Class<?>, Map<String, Method>> CALLS = new HashMap<>();

    private Worlds() {
    }

    static TokenDoors some() {
        TokenDoors x = new TokenDoors();
        play(x, SOME);
        return x;
    }

    static TokenDoors packed() {
        TokenDoors x = new TokenDoors();
        play(x, PACKED);
        return x;
    }

    /** Calls on an object of the class or of its model, each told as its name and its numbers; write feeds a text. */
    static void play(Object on, String[] script) {
        for (String told : script) {
            if (told.startsWith("write ")) {
                for (char c : told.substring(6).toCharArray()) {
                    call(on, "feed", c);
                }
                continue;
            }
            String[] words = told.split(" ");
            int[] numbers = new int[words.length - 1];
            for (int i = 0; i < numbers.length; i++) {
                numbers[i] = Integer.parseInt(words[i + 1]);
            }
            call(on, words[0], numbers);
        }
    }

    static long call(Object on, String name, int... numbers) {
        Object[] boxed = new Object[numbers.length];
        for (int i = 0; i < numbers.length; i++) {
            boxed[i] = numbers[i];
        }
        try {
            return ((Number) calls(on.getClass()).get(name).invoke(on, boxed)).longValue();
        } catch (ReflectiveOperationException e) {
            throw new AssertionError(name, e);
        }
    }

    private static Map<String, Method> calls(Class<?> of) {
        return CALLS.computeIfAbsent(of, c -> {
            Map<String, Method> all = new HashMap<>();
            for (Method m : c.getDeclaredMethods()) {
                all.put(m.getName(), m);
            }
            return all;
        });
    }

    static void lay(TokenDoors x, int k, int lane, int... cells) {
        x.sheet(k, lane, cells.length);
        for (int i = 0; i < cells.length; i++) {
            x.lay(k, i, cells[i]);
        }
    }

    /**
     * All that can be found out, IMAGES, SHEETS and THE TAPE too: the object is of no use behind it.
     * With what made it, it takes less than the 512 calls that an object is good for.
     */
    static String whole(TokenDoors x) {
        StringBuilder all = new StringBuilder(Due.state(x));
        for (int k = 0; k <= 1; k++) {
            all.append(" | image ").append(x.back(k)).append(' ').append(Due.hall(x));
        }
        for (int k = 0; k <= 3; k++) {
            all.append(" | sheet");
            for (int lane = 0; lane <= 2; lane++) {
                x.leave(0);
                int came = x.read(k, lane, 0, 2);
                all.append(' ').append(came).append(' ').append(x.torn());
                for (int cell = 0; cell < 3 * came; cell++) {
                    all.append(' ').append(x.crowd(cell / 3, cell % 3));
                }
            }
        }
        all.append(" | text ").append(x.text()).append(' ').append(x.fault()).append(' ').append(Due.hall(x));
        return all.toString();
    }
}
