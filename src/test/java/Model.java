import java.math.BigInteger;
import java.util.ArrayList;
import java.util.List;
import java.util.regex.Matcher;
import java.util.regex.Pattern;

/**
 * The document told again, as literally as may be and without regard to speed: ones come one behind
 * another, texts are cut by patterns, sheets are rows whose faults the machine finds.
 */
final class Model {
    static final int BAD = -1, STATE = -2, FULL = -3, NONE = -4;
    private static final Pattern TOKEN = Pattern.compile(" *([a-z]+|[0-9]+|;|\\z|.)", Pattern.DOTALL);
    private static final List<String> NAMES = List.of("token", "leak", "window", "half", "crowd");

    static final class World {
        /** Each door: kind, depth, rate, holds, whether it stands open, how many it turned away. */
        List<int[]> doors = new ArrayList<>();
        List<int[]> crowds = new ArrayList<>();
        int tick, let, turned;

        World copy() {
            World w = new World();
            for (int[] d : doors) w.doors.add(d.clone());
            for (int[] c : crowds) w.crowds.add(c.clone());
            w.tick = tick;
            w.let = let;
            w.turned = turned;
            return w;
        }

        static boolean wouldLet(int[] d) {
            return d[4] == 1 || (d[0] == 0 ? d[3] > 0 : d[3] < d[1]);
        }

        /** The door that turns one away, or NONE. */
        int one() {
            for (int i = 0; i < doors.size(); i++) {
                int[] d = doors.get(i);
                if (!wouldLet(d)) {
                    d[5]++;
                    turned = Math.min(99999, turned + 1);
                    return i;
                }
                if (d[4] == 0) d[3] += d[0] == 0 ? -1 : 1;
            }
            let = Math.min(99999, let + 1);
            return NONE;
        }

        int comers() {
            int sum = 0;
            for (int[] c : crowds) {
                boolean comes = false;
                if (c[2] == 0) comes = tick == c[0];
                else for (int t = c[0]; t <= tick; t += c[2]) comes |= t == tick;
                if (comes) sum += c[1];
            }
            return sum;
        }

        int tick(int many) {
            int in = 0;
            for (int i = 0; i < many; i++) if (one() == NONE) in++;
            for (int[] d : doors) {
                boolean divides = d[2] > 0 && (tick + 1) % d[2] == 0;
                if (d[0] == 0) for (int i = 0; i < d[2] && d[3] < d[1]; i++) d[3]++;
                if (d[0] == 1) for (int i = 0; i < d[2] && d[3] > 0; i++) d[3]--;
                if (d[0] == 2 && divides) d[3] = 0;
                if (d[0] == 3 && divides) d[3] = d[3] >> 1;
            }
            tick++;
            return in;
        }

        int run(int n) {
            int sum = 0;
            for (int i = 0; i < n; i++) sum += tick(comers());
            return sum;
        }
    }

    private World now = new World();
    private final World[] images = new World[2];
    private StringBuilder tape = new StringBuilder();
    private int fault, torn;
    private final List<int[]> seen = new ArrayList<>();
    private final Object[] sheets = new Object[4];

    private static boolean in(int v, int least, int most) {
        return least <= v && v <= most;
    }

    private boolean noDoor(int d) {
        return !in(d, 0, now.doors.size() - 1);
    }

    int feed(int c) {
        if (!in(c, 0, 127)) return BAD;
        if (tape.length() == 160) return FULL;
        return tape.append((char) c).length();
    }

    int end(int n) {
        if (!in(n, 0, tape.length())) return BAD;
        int had = tape.length();
        tape.setLength(n);
        return had;
    }

    private static int[] made(int kind, int depth, int rate) {
        return new int[] {kind, depth, rate, kind == 0 ? depth : 0, 0, 0};
    }

    int text() {
        String told = tape.toString();
        tape = new StringBuilder();
        World w = new World();
        Matcher m = TOKEN.matcher(told);
        int lines = 0, from = 0, left = -1, name = 0;
        List<Integer> numbers = new ArrayList<>();
        fault = 0;
        while (true) {
            m.region(from, told.length());
            if (!m.lookingAt()) throw new AssertionError(told);
            String token = m.group(1);
            from = m.end();
            int bad = 0;
            if (token.matches("[0-9]{3,}|[^a-z0-9;]")) bad = 1;
            else if (left == -1) {
                if (token.isEmpty()) break;
                name = NAMES.indexOf(token);
                if (name < 0) bad = 2;
                else if (name < 4 ? w.doors.size() == 4 : w.crowds.size() == 8) bad = 5;
                left = name < 4 ? 2 : 3;
                numbers.clear();
            } else if (left == 0) {
                if (!token.equals(";")) bad = 2;
                else if (name < 4) w.doors.add(made(name, numbers.get(0), numbers.get(1)));
                else w.crowds.add(new int[] {numbers.get(0), numbers.get(1), numbers.get(2)});
                lines++;
                left = -1;
            } else if (!token.matches("[0-9]+")) bad = 2;
            else {
                int v = Integer.parseInt(token), i = numbers.size();
                if (name < 4 ? !in(v, i == 0 ? 1 : 0, 9) : !in(v, i == 1 ? 1 : 0, i == 0 ? 99 : 9)) bad = 3;
                numbers.add(v);
                left--;
            }
            if (bad != 0) {
                fault = bad;
                return -10 - m.start(1);
            }
        }
        now = w;
        seen.clear();
        images[0] = null;
        images[1] = null;
        return lines;
    }

    int fault() {
        return fault;
    }

    int rule(int what) {
        int bits = 0;
        for (int d = 0; d < now.doors.size(); d++) if (World.wouldLet(now.doors.get(d))) bits += 1 << d;
        int[] all = {now.doors.size(), now.crowds.size(), now.tick, now.let, now.turned, now.comers(), bits};
        return in(what, 0, 6) ? all[what] : BAD;
    }

    int door(int d, int what) {
        if (noDoor(d) || !in(what, 0, 4)) return BAD;
        int[] e = now.doors.get(d).clone();
        if (what < 4) return e[what];
        World alone = new World();
        alone.doors.add(e);
        int passed = 0;
        while (alone.one() == NONE) passed++;
        return passed;
    }

    int crowd(int i, int what) {
        return in(i, 0, now.crowds.size() - 1) && in(what, 0, 2) ? now.crowds.get(i)[what] : BAD;
    }

    private static void change(int[] door, int what, int v) {
        door[what] = v;
        if (door[3] > door[1]) door[3] = door[1];
    }

    int alter(int d, int what, int v) {
        if (noDoor(d) || !in(what, 0, 3) || !in(v, what == 1 ? 1 : 0, what == 0 ? 3 : 9)) return BAD;
        int[] e = now.doors.get(d);
        if (what == 3 && v > e[1]) return STATE;
        int was = e[what];
        change(e, what, v);
        return was;
    }

    int hang(int kind, int depth, int rate) {
        if (!in(kind, 0, 3) || !in(depth, 1, 9) || !in(rate, 0, 9)) return BAD;
        if (now.doors.size() == 4) return FULL;
        now.doors.add(made(kind, depth, rate));
        return now.doors.size();
    }

    private static int keepFirst(List<int[]> rows, int n) {
        if (!in(n, 0, rows.size())) return BAD;
        int were = rows.size();
        rows.subList(n, were).clear();
        return were;
    }

    int cut(int n) {
        return keepFirst(now.doors, n);
    }

    int come(int t, int many, int every) {
        if (!in(t, 0, 99) || !in(many, 1, 9) || !in(every, 0, 9)) return BAD;
        if (now.crowds.size() == 8) return FULL;
        now.crowds.add(new int[] {t, many, every});
        return now.crowds.size();
    }

    int leave(int n) {
        return keepFirst(now.crowds, n);
    }

    int pass() {
        return now.one();
    }

    int ticks(int n) {
        if (!in(n, 0, 100)) return BAD;
        return now.tick + n >= 1000 ? FULL : now.run(n);
    }

    int runs(int n, int what) {
        if (!in(n, 0, 100) || !in(what, 0, 4)) return BAD;
        World w = now.copy();
        int let = 0, turned = 0, any = 0, worst = 0, held = 0;
        for (int i = 0; i < n; i++) {
            int many = w.comers(), got = w.tick(many), away = many - got;
            let += got;
            turned += away;
            if (away > 0) any++;
            if (away > worst) worst = away;
        }
        for (int[] d : w.doors) held += d[3];
        return new int[] {let, turned, any, worst, held}[what];
    }

    int ahead(int d, int n) {
        if (noDoor(d) || !in(n, 0, 100)) return BAD;
        World w = now.copy();
        w.run(n);
        return w.doors.get(d)[3];
    }

    private static int letsIn(World w, int n) {
        World x = w.copy();
        x.run(n);
        return x.run(1);
    }

    int lets(int n) {
        return in(n, 0, 100) ? letsIn(now, n) : BAD;
    }

    private static int turnedBy(World w, int d, int n) {
        World x = w.copy();
        int before = x.doors.get(d)[5];
        x.run(n);
        return x.doors.get(d)[5] - before;
    }

    int turns(int d, int n) {
        return noDoor(d) || !in(n, 0, 100) ? BAD : turnedBy(now, d, n);
    }

    int when() {
        for (int n = 0; n <= 100; n++) if (runs(Math.min(n + 1, 100), 1) > 0) return n;
        World w = now.copy();
        w.run(100);
        return w.comers() > w.run(1) ? 100 : NONE;
    }

    private World with(int d, int what, int v) {
        World w = now.copy();
        change(w.doors.get(d), what, v);
        return w;
    }

    int depth(int d, int n) {
        if (noDoor(d) || !in(n, 0, 100)) return BAD;
        for (int v = 1; v <= 9; v++) if (turnedBy(with(d, 1, v), d, n) == 0) return v;
        return NONE;
    }

    int rate(int d, int n) {
        if (noDoor(d) || !in(n, 0, 100)) return BAD;
        for (int v = 0; v <= 9; v++) if (turnedBy(with(d, 2, v), d, n) == 0) return v;
        return NONE;
    }

    int swap(int n, int what) {
        if (!in(n, 0, 100) || !in(what, 0, 1)) return BAD;
        int most = runs(n, 0), answer = NONE;
        for (int a = 0; a < now.doors.size(); a++) {
            for (int b = a + 1; b < now.doors.size(); b++) {
                World w = now.copy();
                int[] held = w.doors.get(a);
                w.doors.set(a, w.doors.get(b));
                w.doors.set(b, held);
                int got = w.run(n);
                if (got > most) {
                    most = got;
                    answer = 10 * a + b;
                }
            }
        }
        return answer == NONE ? NONE : what == 0 ? answer : most;
    }

    int open(int n, int what) {
        if (!in(n, 0, 100) || !in(what, 0, 1)) return BAD;
        int most = runs(n, 0), answer = NONE;
        for (int d = 0; d < now.doors.size(); d++) {
            World w = now.copy();
            w.doors.remove(d);
            int got = w.run(n);
            if (got > most) {
                most = got;
                answer = d;
            }
        }
        return answer == NONE ? NONE : what == 0 ? answer : most;
    }

    private int best(int d, int changed, int last, int n, int what) {
        int most = -1, answer = -1;
        for (int v = last; v >= 0; v--) {
            int got = with(d, changed, v).run(n);
            if (got >= most) {
                most = got;
                answer = v;
            }
        }
        return what == 0 ? answer : most;
    }

    int kind(int d, int n, int what) {
        return noDoor(d) || !in(n, 0, 100) || !in(what, 0, 1) ? BAD : best(d, 0, 3, n, what);
    }

    int fill(int d, int n, int what) {
        return noDoor(d) || !in(n, 0, 100) || !in(what, 0, 1) ? BAD : best(d, 3, now.doors.get(d)[1], n, what);
    }

    private static BigInteger big(long v) {
        return BigInteger.valueOf(v);
    }

    /** In units of 10 to the power n, which is what is left of the ticks. */
    private static BigInteger weigh(World w, int v, int n, int let, boolean turned, boolean mean) {
        if (n == 0) return mean ? big(let) : turned ? BigInteger.ZERO : BigInteger.ONE;
        World quiet = w.copy(), busy = w.copy();
        quiet.tick(0);
        int many = busy.comers(), got = busy.tick(many);
        return big(v).multiply(weigh(quiet, v, n - 1, let, turned, mean))
            .add(big(10 - v).multiply(weigh(busy, v, n - 1, let + got, turned || got < many, mean)));
    }

    private long odds(int v, int n, int what, boolean mean) {
        if (!in(v, 0, 10) || !in(n, 0, 8) || !in(what, 0, 1)) return BAD;
        BigInteger above = weigh(now, v, n, 0, false, mean), below = BigInteger.TEN.pow(n), common = above.gcd(below);
        return (what == 0 ? above : below).divide(common).longValueExact();
    }

    long luck(int v, int n, int what) {
        return odds(v, n, what, false);
    }

    long mean(int v, int n, int what) {
        return odds(v, n, what, true);
    }

    int see(int n, int v) {
        if (!in(n, 0, 40) || !in(v, 0, 72)) return BAD;
        if (seen.size() == 6) return FULL;
        seen.add(new int[] {n, v});
        return seen.size();
    }

    int forget(int n) {
        return keepFirst(seen, n);
    }

    private int fitting(int d, int what, int least, int most) {
        if (noDoor(d)) return BAD;
        int bits = 0;
        for (int v = least; v <= most; v++) {
            boolean fits = true;
            for (int[] s : seen) fits &= letsIn(with(d, what, v), s[0]) == s[1];
            if (fits) bits |= 1 << v;
        }
        return bits;
    }

    int kinds(int d) {
        return fitting(d, 0, 0, 3);
    }

    int depths(int d) {
        return fitting(d, 1, 1, 9);
    }

    int rates(int d) {
        return fitting(d, 2, 0, 9);
    }

    int ask(int d, int what) {
        if (noDoor(d) || !in(what, 0, 1)) return BAD;
        int bits = rates(d), fewest = Integer.bitCount(bits), answer = NONE;
        for (int t = 0; t <= 40; t++) {
            int[] sharing = new int[73];
            for (int v = 0; v <= 9; v++) if ((bits >> v & 1) == 1) sharing[letsIn(with(d, 2, v), t)]++;
            int worst = 0;
            for (int s : sharing) worst = Math.max(worst, s);
            if (worst < fewest) {
                fewest = worst;
                answer = t;
            }
        }
        return answer == NONE ? NONE : what == 0 ? answer : fewest;
    }

    int drift(int seed, int n, int what) {
        if (!in(n, 1, 100) || !in(what, 0, 1)) return BAD;
        if (now.doors.isEmpty()) return STATE;
        World w = now.copy();
        int let = 0, turned = 0;
        long s = seed;
        for (int i = 0; i < n; i++) {
            s = (int) (s * 1103515245L + 12345L);
            int many = (int) ((s & 0x7fffffffL) / 65536 % 10), got = w.tick(many);
            let += got;
            turned += many - got;
        }
        return what == 0 ? let : turned;
    }

    int keep(int k) {
        if (!in(k, 0, 1)) return BAD;
        int was = images[k] == null ? 0 : 1;
        images[k] = now.copy();
        return was;
    }

    int back(int k) {
        if (!in(k, 0, 1)) return BAD;
        if (images[k] == null) return STATE;
        now = images[k].copy();
        return now.tick;
    }

    int sheet(int k, int lane, int n) {
        if (!in(k, 0, 3) || !in(lane, 0, 2) || n > 40) return BAD;
        try {
            sheets[k] = lane == 0 ? new byte[n] : lane == 1 ? new short[n] : new int[n];
        } catch (NegativeArraySizeException e) {
            return -14;
        }
        return 1;
    }

    int lay(int k, int i, int v) {
        if (!in(k, 0, 3)) return BAD;
        try {
            if (sheets[k] instanceof byte[]) ((byte[]) sheets[k])[i] = (byte) v;
            else if (sheets[k] instanceof short[]) ((short[]) sheets[k])[i] = (short) v;
            else ((int[]) sheets[k])[i] = v;
        } catch (NullPointerException e) {
            return -11;
        } catch (ArrayIndexOutOfBoundsException e) {
            return -12;
        }
        return 1;
    }

    int read(int k, int lane, int f, int n) {
        if (!in(k, 0, 3) || !in(lane, 0, 2) || !in(n, 0, 13)) return BAD;
        int before = now.crowds.size(), came = 0, found = 0;
        try {
            for (; came < n; came++) {
                int[] three = new int[3];
                for (int j = 0; j < 3; j++) {
                    int i = f + 3 * came + j;
                    three[j] = lane == 0 ? ((byte[]) sheets[k])[i] : lane == 1 ? ((short[]) sheets[k])[i] : ((int[]) sheets[k])[i];
                }
                if (come(three[0], three[1], three[2]) < 0) {
                    leave(before);
                    return -20 - came;
                }
            }
        } catch (NullPointerException e) {
            found = 1;
        } catch (ArrayIndexOutOfBoundsException e) {
            found = 2;
        } catch (ClassCastException e) {
            found = 3;
        }
        torn = found;
        return came;
    }

    int torn() {
        return torn;
    }

    int count(int what) {
        int depths = 0, many = 0, images2 = 0;
        for (int[] d : now.doors) depths += d[1];
        for (int[] c : now.crowds) many += c[1];
        for (World w : images) if (w != null) images2++;
        int cells = sheets[0] == null ? NONE : java.lang.reflect.Array.getLength(sheets[0]);
        return in(what, 0, 5) ? new int[] {seen.size(), images2, tape.length(), cells, depths, many}[what] : BAD;
    }
}
