import java.lang.reflect.InvocationTargetException;
import java.lang.reflect.Method;
import java.util.ArrayList;
import java.util.List;
import java.util.Random;

/** Promises 1 to 42: runs of calls by a seed are answered as the model answers them, and none throws. */
public final class ModelTest {
    private static final int RUNS = 700, CALLS = 512;
    private static final int[] WILD = {
        Integer.MIN_VALUE, Integer.MIN_VALUE + 1, -1000, -41, -2, -1, 100, 101, 127, 128, 255, 256, 999, 1000,
        32767, 32768, 65536, Integer.MAX_VALUE - 3, Integer.MAX_VALUE - 1, Integer.MAX_VALUE};
    private static final String[] WORDS = {
        "token", "leak", "window", "half", "crowd", ";", ";", "0", "1", "9", "10", "05", "99", "100", "x", "A", "\t", " ", "  "};

    private static final List<Method[]> CALLED = new ArrayList<>();

    public static void main(String[] args) throws Exception {
        for (Method real : TokenDoors.class.getDeclaredMethods()) {
            if (java.lang.reflect.Modifier.isPublic(real.getModifiers())) {
                CALLED.add(new Method[] {real, Model.class.getDeclaredMethod(real.getName(), real.getParameterTypes())});
            }
        }
        CALLED.sort((a, b) -> a[0].getName().compareTo(b[0].getName()));
        Due.is("methods of the face", CALLED.size(), 41);
        for (int seed = 0; seed < RUNS && Due.wrongs() == 0; seed++) {
            run(seed);
        }
        Due.finish();
    }

    private static void run(int seed) throws Exception {
        Random random = new Random(seed);
        TokenDoors x = new TokenDoors();
        Model m = new Model();
        StringBuilder told = new StringBuilder();
        for (int i = 0; i < CALLS && Due.wrongs() == 0; i++) {
            if (random.nextInt(40) == 0) {
                i += feedAll(text(random), x, m);
                both("text", x, m, told, seed);
            } else if (random.nextInt(8) == 0) {
                both("hang", x, m, told, seed, random.nextInt(4), 1 + random.nextInt(9), random.nextInt(10));
            } else if (random.nextInt(8) == 0) {
                both("come", x, m, told, seed, random.nextInt(random.nextInt(100) + 1), 1 + random.nextInt(9), random.nextInt(10));
            } else if (random.nextInt(12) == 0) {
                int n = random.nextInt(41);
                both("see", x, m, told, seed, n, Math.max(0, m.lets(n)));
            } else {
                Method[] pair = CALLED.get(random.nextInt(CALLED.size()));
                int[] args = new int[pair[0].getParameterCount()];
                for (int a = 0; a < args.length; a++) {
                    args[a] = argument(random);
                }
                if (!(pair[0].getName().matches("cut|leave|forget|text") && random.nextInt(4) != 0)) {
                    both(pair[0].getName(), x, m, told, seed, args);
                }
            }
        }
    }

    private static int argument(Random random) {
        switch (random.nextInt(12)) {
            case 0: return WILD[random.nextInt(WILD.length)];
            case 1: return random.nextInt(101);
            case 2: return random.nextInt(41);
            case 3: return random.nextInt();
            case 4: return random.nextInt(14);
            default: return random.nextInt(5);
        }
    }

    private static String text(Random random) {
        StringBuilder all = new StringBuilder();
        boolean spoiled = random.nextInt(2) == 0;
        for (int lines = random.nextInt(spoiled ? 14 : 9), doors = 0; lines > 0; lines--) {
            if (random.nextInt(2) == 0 && (spoiled || doors < 4)) {
                doors++;
                all.append(WORDS[random.nextInt(4)]).append(' ').append(1 + random.nextInt(9)).append(' ');
            } else {
                all.append("crowd ").append(random.nextInt(12)).append(' ').append(1 + random.nextInt(9)).append(' ');
            }
            all.append(random.nextInt(10)).append(';');
        }
        for (int spoils = spoiled ? random.nextInt(3) : 0; spoils > 0; spoils--) {
            int at = random.nextInt(all.length() + 1);
            all.insert(at, WORDS[random.nextInt(WORDS.length)]);
        }
        if (spoiled && random.nextInt(3) == 0) {
            all.setLength(random.nextInt(all.length() + 1));
        }
        return all.toString();
    }

    private static int feedAll(String bytes, TokenDoors x, Model m) {
        for (int i = 0; i < bytes.length(); i++) {
            Due.is("feed(" + (int) bytes.charAt(i) + ")", x.feed(bytes.charAt(i)), m.feed(bytes.charAt(i)));
        }
        return bytes.length();
    }

    private static void both(String name, TokenDoors x, Model m, StringBuilder told, int seed, int... args) throws Exception {
        Object[] boxed = new Object[args.length];
        StringBuilder call = new StringBuilder(name).append('(');
        for (int a = 0; a < args.length; a++) {
            boxed[a] = args[a];
            call.append(a == 0 ? "" : ", ").append(args[a]);
        }
        call.append(')');
        for (Method[] pair : CALLED) {
            if (pair[0].getName().equals(name)) {
                long want = ((Number) pair[1].invoke(m, boxed)).longValue();
                try {
                    long got = ((Number) pair[0].invoke(x, boxed)).longValue();
                    Due.is("run " + seed + ", behind" + told + ": " + call, got, want);
                } catch (InvocationTargetException e) {
                    Due.holds("run " + seed + ", behind" + told + ": " + call + " threw " + e.getCause(), false);
                }
                told.append(' ').append(call).append('=').append(want);
            }
        }
    }
}
