import java.lang.reflect.InvocationTargetException;
import java.lang.reflect.Method;
import java.util.Arrays;
import java.util.Comparator;
import java.util.function.IntToLongFunction;
import java.util.function.Supplier;
import java.util.function.ToLongFunction;

/** Runs the tests of a class that are about a sentence each, and helps them to go along a boundary. */
final class Edges {
    private Edges() {
    }

    static void run(Class<?> tests) throws IllegalAccessException {
        Method[] all = tests.getDeclaredMethods();
        Arrays.sort(all, Comparator.comparing(Method::getName));
        for (Method test : all) {
            Sentence about = test.getAnnotation(Sentence.class);
            if (about == null) {
                continue;
            }
            Due.about(test.getName() + " (" + about.promise() + ": \"" + about.says() + "\")");
            test.setAccessible(true);
            try {
                test.invoke(null);
            } catch (InvocationTargetException e) {
                Due.holds("threw " + e.getCause(), false);
            }
        }
        Due.finish();
    }

    /** The numbers beside least and most, and far from them; some would be inside if their high bits were lost. */
    static int[] outside(int least, int most) {
        return new int[] {
            least - 1, most + 1, least - 256, least + 256, least - 65536, least + 65536,
            Integer.MIN_VALUE, Integer.MIN_VALUE + least, Integer.MAX_VALUE};
    }

    /** A call, its # put for a number, answers the same by each of these numbers. */
    static void all(String call, IntToLongFunction asked, long want, int... numbers) {
        for (int v : numbers) {
            Due.is(call.replace("#", Integer.toString(v)), asked.applyAsLong(v), want);
        }
    }

    /** A call, its # put for a number, is BAD by each number outside, and by none of those inside. */
    static void bounds(String call, IntToLongFunction asked, int least, int most) {
        all(call, asked, TokenDoors.BAD, outside(least, most));
        for (int v : new int[] {least, most}) {
            Due.holds(call.replace("#", Integer.toString(v)) + " is not BAD", asked.applyAsLong(v) != TokenDoors.BAD);
        }
    }

    /** A call answers so and leaves all as it is in another object that was made alike. */
    static void leavesAll(String call, Supplier<TokenDoors> made, ToLongFunction<TokenDoors> asked, long want) {
        TokenDoors x = made.get();
        Due.is(call, asked.applyAsLong(x), want);
        String due = Worlds.whole(made.get());
        String found = Worlds.whole(x);
        Due.holds(call + " changes nothing:\n  " + due + "\n  " + found, found.equals(due));
    }
}
