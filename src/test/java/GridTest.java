import java.util.ArrayList;
import java.util.Arrays;
import java.util.List;
import java.util.Set;

/**
 * Every call by every choice of numbers at its boundaries and beside them, where there is nothing, some and
 * all that there may be: it answers as the model does, what it leaves is as in the model, and what is
 * refused or only asked changes nothing.
 */
public final class GridTest {
    private static final String[][] STARTS = {Worlds.BARE, Worlds.SOME, Worlds.PACKED};
    private static final String[] NAMES = {"bare", "some", "packed"};

    /** Each call with the least and the greatest of each of its numbers. */
    private static final String[] CALLS = {
        "feed 0 127", "end 0 160", "text", "fault", "rule 0 6", "door 0 3 0 4", "crowd 0 7 0 2",
        "alter 0 3 0 3 0 9", "hang 0 3 1 9 0 9", "cut 0 4", "come 0 99 1 9 0 9", "leave 0 8", "pass",
        "ticks 0 100", "runs 0 100 0 4", "ahead 0 3 0 100", "lets 0 100", "turns 0 3 0 100", "when",
        "depth 0 3 0 100", "rate 0 3 0 100", "swap 0 100 0 1", "open 0 100 0 1", "kind 0 3 0 100 0 1", "fill 0 3 0 100 0 1",
        "luck 0 10 0 8 0 1", "mean 0 10 0 8 0 1",
        "see 0 40 0 72", "forget 0 6", "kinds 0 3", "depths 0 3", "rates 0 3", "ask 0 3 0 1", "drift -5 5 1 100 0 1",
        "keep 0 1", "back 0 1", "sheet 0 3 0 2 0 40", "lay 0 3 0 39 -128 127", "read 0 3 0 2 0 39 0 13", "torn", "count 0 5"};

    private static final Set<String> CHANGING = Set.of(
        "feed", "end", "text", "alter", "hang", "cut", "come", "leave", "pass", "ticks", "see", "forget", "keep", "back",
        "sheet", "lay", "read");

    /** Asked of both behind each call that may change something; what these do not show, ModelTest does. */
    private static final String[] PROBES = probes();

    public static void main(String[] args) {
        Due.is("calls of the face", CALLS.length, 41);
        for (int start = 0; start < STARTS.length; start++) {
            for (String call : CALLS) {
                grid(start, call);
            }
        }
        Due.finish();
    }

    private static void grid(int start, String told) {
        String[] words = told.split(" ");
        List<int[]> choices = new ArrayList<>();
        choices.add(new int[0]);
        for (int i = 1; i + 1 < words.length; i += 2) {
            List<int[]> longer = new ArrayList<>();
            for (int[] choice : choices) {
                for (int v : around(Integer.parseInt(words[i]), Integer.parseInt(words[i + 1]), words.length > 7)) {
                    int[] more = Arrays.copyOf(choice, choice.length + 1);
                    more[choice.length] = v;
                    longer.add(more);
                }
            }
            choices = longer;
        }
        Model model = made(start);
        String pristine = Worlds.whole(doors(start));
        for (int[] numbers : choices) {
            boolean changed = compare(start, words[0], numbers, model, pristine);
            model = changed ? made(start) : model;
        }
    }

    private static int[] around(int least, int most, boolean few) {
        if (few) {
            return new int[] {least - 1, least, least + 1, most, most + 1, Integer.MAX_VALUE};
        }
        return new int[] {
            Integer.MIN_VALUE, least - 1, least, least + 1, least + 2, (least + most) / 2, most - 1, most, most + 1, Integer.MAX_VALUE};
    }

    private static Model made(int start) {
        Model model = new Model();
        Worlds.play(model, STARTS[start]);
        return model;
    }

    private static TokenDoors doors(int start) {
        TokenDoors x = new TokenDoors();
        Worlds.play(x, STARTS[start]);
        return x;
    }

    /** Answers whether the model has changed. */
    private static boolean compare(int start, String name, int[] numbers, Model model, String pristine) {
        String call = NAMES[start] + ": " + name + Arrays.toString(numbers);
        TokenDoors x = doors(start);
        long want = Worlds.call(model, name, numbers);
        Due.is(call, Worlds.call(x, name, numbers), want);
        boolean refused = want < 0 && !name.equals("pass") && !name.equals("text");
        if (refused || !CHANGING.contains(name)) {
            Due.holds(call + " changes nothing", Worlds.whole(x).equals(pristine));
            return false;
        }
        for (String probe : PROBES) {
            String[] words = probe.split(" ");
            int[] asked = new int[words.length - 1];
            for (int i = 0; i < asked.length; i++) {
                asked[i] = Integer.parseInt(words[i + 1]);
            }
            Due.is(call + ", then " + probe, Worlds.call(x, words[0], asked), Worlds.call(model, words[0], asked));
        }
        return true;
    }

    private static String[] probes() {
        List<String> all = new ArrayList<>(List.of("fault", "torn", "when", "lets 0", "lets 7"));
        for (int what = 0; what <= 6; what++) {
            all.add("rule " + what);
            all.add("count " + what);
        }
        for (int d = 0; d <= 3; d++) {
            for (int what = 0; what <= 4; what++) {
                all.add("door " + d + " " + what);
            }
            all.add("kinds " + d);
            all.add("rates " + d);
        }
        for (int i = 0; i <= 7; i++) {
            for (int what = 0; what <= 2; what++) {
                all.add("crowd " + i + " " + what);
            }
        }
        all.addAll(List.of("back 0", "rule 3", "back 1", "rule 4", "leave 0", "read 0 0 0 1", "crowd 0 0", "read 3 2 0 2", "torn", "text", "rule 0"));
        return all.toArray(new String[0]);
    }
}
