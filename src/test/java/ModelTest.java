import java.util.ArrayList;
import java.util.List;
import java.util.Random;
import java.util.regex.Matcher;
import java.util.regex.Pattern;

/**
 * Long runs of calls, by a fixed seed, against a model that was written from the document in the
 * slowest and plainest way: fact by fact, set by set, texts judged by one great pattern.
 */
public final class ModelTest {
    private static final long NO = Long.MIN_VALUE;
    private static final int RUNS = 700;
    private static final int CALLS = 512;

    // ---- the model

    private static final class One implements Cloneable {
        int number;
        int kind;
        int v;
        boolean[] knows = new boolean[8];
        int[] row = new int[4];

        One copy() {
            One one = new One();
            one.number = number;
            one.kind = kind;
            one.v = v;
            one.knows = knows.clone();
            one.row = row.clone();
            return one;
        }

        int mind() {
            int bits = 0;
            for (int f = 0; f < 8; f++) {
                bits += knows[f] ? 1 << f : 0;
            }
            return bits;
        }

        void know(int bits) {
            for (int f = 0; f < 8; f++) {
                knows[f] = (bits & 1 << f) != 0;
            }
        }
    }

    private static final class World {
        List<One> ones = new ArrayList<>();
        List<int[]> deeds = new ArrayList<>();
        List<int[]> footmen = new ArrayList<>();
        List<int[]> seen = new ArrayList<>();
        List<int[]> plan = new ArrayList<>();
        List<int[]> book = new ArrayList<>();
        int day = 0;
        String house = null;

        World copy() {
            World w = new World();
            for (One one : ones) {
                w.ones.add(one.copy());
            }
            copy(deeds, w.deeds);
            copy(footmen, w.footmen);
            copy(seen, w.seen);
            copy(plan, w.plan);
            copy(book, w.book);
            w.day = day;
            w.house = house;
            return w;
        }

        private static void copy(List<int[]> from, List<int[]> to) {
            for (int[] row : from) {
                to.add(row.clone());
            }
        }

        // Evaluation walks the text itself, for one fact at a time.
        private String e;
        private int at;

        private boolean either(int[] env) {
            boolean t = both(env);
            if (at < e.length() && e.charAt(at) == '|') {
                at++;
                boolean rest = either(env);
                return t || rest;
            }
            return t;
        }

        private boolean both(int[] env) {
            boolean f = single(env);
            if (at < e.length() && e.charAt(at) == '&') {
                at++;
                boolean rest = both(env);
                return f && rest;
            }
            return f;
        }

        private boolean single(int[] env) {
            char c = e.charAt(at++);
            if (c == '!') {
                return !single(env);
            }
            if (c == '(') {
                boolean inner = either(env);
                at++;
                return inner;
            }
            char sign = e.charAt(at++);
            int from = at;
            while (at < e.length() && Character.isDigit(e.charAt(at))) {
                at++;
            }
            int n = Integer.parseInt(e.substring(from, at));
            int value = env["pkvfds".indexOf(c)];
            return sign == '<' ? value < n : sign == '=' ? value == n : value > n;
        }

        int sum(One one, int fact, int day) {
            int sum = 1;
            if (house == null) {
                return sum;
            }
            int[] env = {one.number, one.kind, one.v, fact, day % 10, day % 7};
            for (String clause : house.split(";")) {
                String[] parts = clause.split(" ");
                if (parts[0].equals("hours")) {
                    continue;
                }
                e = parts[2];
                at = 0;
                if (either(env)) {
                    sum += (parts[0].equals("keep") ? 1 : -1) * Integer.parseInt(parts[1]);
                }
            }
            return sum;
        }

        int hours() {
            int hours = 6;
            if (house != null) {
                for (String clause : house.split(";")) {
                    if (clause.startsWith("hours")) {
                        hours = Integer.parseInt(clause.substring(6));
                    }
                }
            }
            return hours;
        }

        int grip(One one, int fact, int day) {
            int sum = sum(one, fact, day);
            int heir = fact < one.v ? sum + 2 : sum;
            int duchess = day % 2 == 1 ? 0 : sum;
            int cousin = sum < 0 ? -(-sum / 2) : sum / 2;
            return switch (one.kind) {
                case 0 -> sum;
                case 1 -> heir;
                case 2 -> duchess;
                case 3 -> cousin;
                case 4 -> fact == one.v % 8 ? 0 : heir;
                case 5 -> duchess + one.v % 3;
                default -> cousin + one.row[day % 4];
            };
        }

        void night() {
            for (One one : ones) {
                for (int f = 0; f < 8; f++) {
                    if (one.knows[f] && grip(one, f, day) <= 0) {
                        one.knows[f] = false;
                    }
                }
            }
            day++;
        }

        World later(int n) {
            World w = copy();
            for (int i = 0; i < n; i++) {
                w.night();
            }
            return w;
        }

        int done() {
            int bits = 0;
            for (int i = 0; i < deeds.size(); i++) {
                int takes = deeds.get(i)[1];
                if ((ones.get(deeds.get(i)[0]).mind() & takes) == takes) {
                    bits |= 1 << i;
                }
            }
            return bits;
        }

        int known() {
            int n = 0;
            for (One one : ones) {
                n += Integer.bitCount(one.mind());
            }
            return n;
        }

        int heldBy(int crew) {
            int facts = 0;
            for (int i = 0; i < footmen.size(); i++) {
                if ((crew >> i & 1) == 1) {
                    facts |= footmen.get(i)[0];
                }
            }
            return facts;
        }

        int present() {
            int crew = 0;
            for (int i = 0; i < footmen.size(); i++) {
                crew |= footmen.get(i)[1] == 0 ? 1 << i : 0;
            }
            return crew;
        }
    }

    private static final class Model {
        World w = new World();
        World image = null;
        List<String> houses = new ArrayList<>();
        StringBuilder text = new StringBuilder();
        List<Integer> bodies = new ArrayList<>();
        int[] sorts = {-1, -1, -1, -1, -1, -1};
        Object[] rows = new Object[6];

        private One one(int p) {
            return p >= 0 && p < w.ones.size() ? w.ones.get(p) : null;
        }

        int master(int kind, int v) {
            if (kind < 0 || kind > 6) return -1;
            if (v < 0 || v > 9) return -2;
            if (w.ones.size() == 6) return -4;
            One one = new One();
            one.number = w.ones.size();
            one.kind = kind;
            one.v = v;
            w.ones.add(one);
            return one.number;
        }

        int of(int p, int what) {
            if (one(p) == null) return -1;
            if (what == 0) return one(p).kind;
            if (what == 1) return one(p).v;
            if (what == 2) return one(p).mind();
            if (what == 3) {
                for (int n = 0; n <= 60; n++) {
                    if (w.later(n).ones.get(p).mind() == 0) return n;
                }
                return -5;
            }
            if (what < 10 || what > 17) return -1;
            World known = w.copy();
            known.ones.get(p).knows[what - 10] = true;
            int n = 0;
            while (n < 60) {
                known.night();
                if (!known.ones.get(p).knows[what - 10]) break;
                n++;
            }
            return n;
        }

        int grip(int p, int fact, int n) {
            if (one(p) == null || fact < 0 || fact > 7) return -10001;
            if (n < 0 || n > 60) return -10002;
            return w.grip(one(p), fact, w.day + n);
        }

        int tell(int p, int fact) {
            if (one(p) == null || fact < 0 || fact > 7) return -1;
            one(p).knows[fact] = true;
            return one(p).mind();
        }

        int mind(int p, int facts) {
            if (one(p) == null) return -1;
            if (facts < 0 || facts > 255) return -2;
            int was = one(p).mind();
            one(p).know(facts);
            return was;
        }

        int deed(int p, int facts, int due) {
            if (one(p) == null) return -1;
            if (facts < 0 || facts > 255 || due < 0 || due > 20) return -2;
            if (w.deeds.size() == 8) return -4;
            w.deeds.add(new int[] {p, facts, due});
            return w.deeds.size() - 1;
        }

        int footman(int facts) {
            if (facts < 0 || facts > 255) return -2;
            if (w.footmen.size() == 5) return -4;
            w.footmen.add(new int[] {facts, 0});
            return w.footmen.size() - 1;
        }

        int out(int f, boolean is) {
            if (f < 0 || f >= w.footmen.size()) return -1;
            int was = w.footmen.get(f)[1];
            w.footmen.get(f)[1] = is ? 1 : 0;
            return was;
        }

        int lost(int f) {
            if (f < 0 || f >= w.footmen.size()) return -1;
            if (w.footmen.get(f)[1] == 1) return 0;
            int all = w.heldBy(w.present());
            return all & ~w.heldBy(w.present() & ~(1 << f));
        }

        int row(int p, int part, int n) {
            if (one(p) == null || part < 0 || part > 3) return -1;
            if (n < 0 || n > 9) return -2;
            if (one(p).kind != 6) return -3;
            int was = one(p).row[part];
            one(p).row[part] = n;
            return was;
        }

        int feed(int sign) {
            if (sign < 0 || sign > 127) return -2;
            if (text.length() == 100) return -4;
            text.append((char) sign);
            return text.length();
        }

        int house() {
            if (houses.size() == 6) return -4;
            String t = text.toString();
            text.setLength(0);
            int fault = faultOf(t);
            if (fault >= 0) return -10 - fault;
            houses.add(t);
            w.house = t;
            return houses.size() - 1;
        }

        private int[] each() {
            World later = w.copy();
            int together = 0;
            int most = 0;
            for (int n = 0; n <= 20; n++) {
                int today = 0;
                for (int[] deed : later.deeds) {
                    for (int f = 0; f < 8; f++) {
                        boolean takes = deed[2] == n && (deed[1] >> f & 1) == 1;
                        if (takes && !later.ones.get(deed[0]).knows[f]) {
                            later.ones.get(deed[0]).knows[f] = true;
                            today++;
                        }
                    }
                }
                together += today;
                most = Math.max(most, today);
                later.night();
            }
            return new int[] {together, most};
        }

        private int tellings() {
            World then = w.copy();
            int n = 0;
            for (int[] deed : then.deeds) {
                for (int f = 0; f < 8; f++) {
                    if ((deed[1] >> f & 1) == 1 && !then.ones.get(deed[0]).knows[f]) {
                        then.ones.get(deed[0]).knows[f] = true;
                        n++;
                    }
                }
            }
            return n;
        }

        private int crew() {
            int all = w.heldBy(w.present());
            for (int size = 0; size <= 5; size++) {
                for (int crew = 0; crew < 32; crew++) {
                    boolean in = (crew & ~w.present()) == 0;
                    if (in && Integer.bitCount(crew) == size && w.heldBy(crew) == all) return crew;
                }
            }
            return -99;
        }

        int told(int what) {
            switch (what) {
                case 0: return w.day;
                case 1: return w.hours();
                case 2: return w.done();
                case 3: return tellings();
                case 4: return each()[0];
                case 5: return each()[1];
                case 6: return each()[1] > w.hours() ? 1 : 0;
                case 7: return w.heldBy(w.present());
                case 8: return crew();
                case 9:
                    for (int f = 0; f < w.footmen.size(); f++) {
                        if (lost(f) != 0) return 0;
                    }
                    return 1;
                case 10: return (1 << w.footmen.size()) - 1 - w.present();
                default: return -1;
            }
        }

        int pass(int n) {
            if (n < 0 || n > 60) return -2;
            if (w.day + n > 9999) return -3;
            w = w.later(n);
            return w.day;
        }

        int on(int n, int what) {
            boolean mind = what >= 10 && one(what - 10) != null;
            if (what != 0 && what != 1 && !mind) return -1;
            if (n < 0 || n > 60) return -2;
            World then = w.later(n);
            return what == 0 ? then.done() : what == 1 ? then.known() : then.ones.get(what - 10).mind();
        }

        int see(int p, int fact, int n, boolean keeps) {
            if (p == -1) {
                w.seen.clear();
                return 0;
            }
            if (one(p) == null || fact < 0 || fact > 7) return -1;
            if (n < 0 || n > 20) return -2;
            if (w.seen.size() == 5) return -4;
            w.seen.add(new int[] {p, fact, n, keeps ? 1 : 0});
            return w.seen.size();
        }

        private boolean isSo(int[] row, int v) {
            One one = one(row[0]).copy();
            one.v = v;
            return w.grip(one, row[1], w.day + row[2]) > 0 == (row[3] == 1);
        }

        int wrong() {
            for (int i = 0; i < w.seen.size(); i++) {
                if (!isSo(w.seen.get(i), one(w.seen.get(i)[0]).v)) return i;
            }
            return -5;
        }

        int can(int p, int what) {
            if (one(p) == null || what < 0 || what > 1) return -1;
            List<Integer> vs = new ArrayList<>();
            for (int v = 0; v <= 9; v++) {
                boolean all = true;
                for (int[] row : w.seen) {
                    all &= row[0] != p || isSo(row, v);
                }
                if (all) vs.add(v);
            }
            return what == 0 ? vs.size() : vs.isEmpty() ? -5 : vs.get(0);
        }

        int knew(int p, int facts, int n, int what) {
            if (one(p) == null || what < 0 || what > 1) return -1;
            if (facts < 0 || facts > 255 || n < 0 || n > 20) return -2;
            boolean[] stays = new boolean[8];
            for (int f = 0; f < 8; f++) {
                stays[f] = true;
                for (int i = 0; i < n; i++) {
                    stays[f] &= w.grip(one(p), f, w.day + i) > 0;
                }
            }
            int many = 0;
            int least = -5;
            for (int set = 0; set < 256; set++) {
                int then = 0;
                for (int f = 0; f < 8; f++) {
                    then |= stays[f] ? set & 1 << f : 0;
                }
                if (then == facts) {
                    many++;
                    least = least == -5 ? set : least;
                }
            }
            return what == 0 ? many : least;
        }

        private static long part(int above, int below, int part) {
            int g = java.math.BigInteger.valueOf(above).gcd(java.math.BigInteger.valueOf(below)).intValue();
            return part == 0 ? above / g : below / g;
        }

        long odds(int facts, int part) {
            if (facts < 0 || facts > 255 || part < 0 || part > 1 || w.footmen.isEmpty()) return NO;
            int good = 0;
            for (int f = 0; f < w.footmen.size(); f++) {
                int others = w.heldBy(w.present() & ~(1 << f));
                good += (others & facts) == facts ? 1 : 0;
            }
            return part(good, w.footmen.size(), part);
        }

        long mean(int n, int part) {
            if (n < 0 || n > 60 || part < 0 || part > 1 || w.ones.isEmpty()) return NO;
            return part(w.later(n).known(), w.ones.size(), part);
        }

        int plan(int what, int n) {
            if (what == -1) {
                w.plan.clear();
                return 0;
            }
            boolean ok = what == 0;
            for (int p = 0; p < w.ones.size(); p++) {
                ok |= what == 2 && n == p;
                for (int f = 0; f < 8; f++) {
                    ok |= what == 1 && n == 10 * p + f;
                }
            }
            if (!ok) return -1;
            if (w.plan.size() == 10) return -4;
            w.plan.add(new int[] {what, n});
            return w.plan.size();
        }

        int ends(int what) {
            if (what < 0 || what > 1) return -1;
            World then = w.copy();
            for (int[] row : w.plan) {
                if (row[0] == 0) then.night();
                if (row[0] == 1) then.ones.get(row[1] / 10).knows[row[1] % 10] = true;
                if (row[0] == 2) then.ones.get(row[1]).know(0);
            }
            return what == 0 ? then.known() : then.done();
        }

        int book(int p, int facts) {
            if (p == -1) {
                w.book.clear();
                return 0;
            }
            if (one(p) == null) return -1;
            if (facts < 0 || facts > 255) return -2;
            if (w.book.size() == 8) return -4;
            w.book.add(new int[] {p, facts});
            return w.book.size();
        }

        int looked() {
            for (int i = 0; i < w.book.size(); i++) {
                if (one(w.book.get(i)[0]).mind() != w.book.get(i)[1]) return i;
            }
            return -5;
        }

        int judge(int tape, int i) {
            if (tape < 0 || tape > 5) return -1;
            if (sorts[tape] != -1 && sorts[tape] != 1) return -12;
            for (int p = 0; p < w.ones.size(); p++) {
                long value = read(tape, i < 0 || i > 1000 ? -1 : i + p);
                if (value == NO) return 100 + p;
                if (value != one(p).mind()) return p;
            }
            return -5;
        }

        int image() {
            image = w.copy();
            return w.ones.size();
        }

        int undo() {
            if (image == null) return -3;
            w = image.copy();
            return w.ones.size();
        }

        // The acts, by a table of who has which body, and not by Java's own dispatch.
        private static final int[] ABOVE = {-1, 0, 0, 0, 1, 2, 3};
        private static final int[][] BODIES = {
            {10, 11, 12}, {0, 20, 0}, {30, 0, 0}, {0, 0, 40}, {50, 51, 0}, {0, 0, 60}, {71, 70, 0}
        };

        private int body(One one, int kind, int act, int x) {
            while (BODIES[kind][act] == 0) {
                kind = ABOVE[kind];
            }
            int number = BODIES[kind][act];
            bodies.add(number);
            int up = ABOVE[kind];
            switch (number) {
                case 10: return x + one.number;
                case 11: return body(one, one.kind, 0, x) - one.v;
                case 12: return body(one, one.kind, 1, x) * 2;
                case 20: return body(one, up, 1, x) ^ 6;
                case 30: return body(one, up, 0, x * 3);
                case 40: return body(one, up, 2, x) + body(one, one.kind, 1, 1);
                case 50: return -body(one, up, 0, x);
                case 51: return body(one, up, 1, x + 1);
                case 60: return body(one, up, 2, x - one.number);
                case 70: return body(one, up, 1, x) + body(one, up, 0, 2);
                default: return body(one, up, 0, x) ^ one.v;
            }
        }

        int act(int p, int act, int x) {
            bodies.clear();
            if (one(p) == null || act < 0 || act > 2) return 0;
            return body(one(p), one(p).kind, act, x);
        }

        int trace(int i) {
            return i >= 0 && i < bodies.size() && i < 20 ? bodies.get(i) : -1;
        }

        int taken(int p, int k) {
            if (k < 0 || k > 6) return -2;
            if (one(p) == null) return -11;
            for (int kind = one(p).kind; kind >= 0; kind = ABOVE[kind]) {
                if (kind == k) return one(p).kind;
            }
            return -12;
        }

        int count(int what) {
            int[] all = {w.ones.size(), w.deeds.size(), w.footmen.size(), houses.size(), w.seen.size(),
                w.plan.size(), w.book.size(), text.length(), bodies.size()};
            return what >= 0 && what < all.length ? all[what] : -2;
        }

        int tape(int tape, int sort, int n) {
            if (tape < 0 || tape > 5) return -1;
            if (sort == -1) {
                sorts[tape] = -1;
                rows[tape] = null;
                return 1;
            }
            if (sort < -1 || sort > 4 || n > 60) return -2;
            if (n < 0) return -14;
            sorts[tape] = sort;
            rows[tape] = sort == 0 ? new byte[n] : sort == 1 ? new short[n] : sort == 2 ? new int[n]
                : sort == 3 ? new long[n] : new boolean[n];
            return 1;
        }

        private int length(int tape) {
            return java.lang.reflect.Array.getLength(rows[tape]);
        }

        int item(int tape, int i, long v) {
            if (tape < 0 || tape > 5) return -1;
            if (rows[tape] == null) return -11;
            if (i < 0 || i >= length(tape)) return -13;
            if (rows[tape] instanceof byte[] row) row[i] = (byte) v;
            if (rows[tape] instanceof short[] row) row[i] = (short) v;
            if (rows[tape] instanceof int[] row) row[i] = (int) v;
            if (rows[tape] instanceof long[] row) row[i] = v;
            if (rows[tape] instanceof boolean[] row) row[i] = v != 0;
            return 1;
        }

        long read(int tape, int i) {
            if (tape < 0 || tape > 5 || rows[tape] == null || i < 0 || i >= length(tape)) return NO;
            if (rows[tape] instanceof boolean[] row) return row[i] ? 1 : 0;
            return ((Number) java.lang.reflect.Array.get(rows[tape], i)).longValue();
        }

        int shift(int tape, int i, int other, int j, int n) {
            if (tape < 0 || tape > 5 || other < 0 || other > 5) return -1;
            if (rows[tape] == null || rows[other] == null) return -11;
            try {
                System.arraycopy(rows[tape], i, rows[other], j, n);
                return n;
            } catch (ArrayStoreException unlike) {
                return -12;
            } catch (IndexOutOfBoundsException beyond) {
                return -13;
            }
        }
    }

    // ---- faults, by a pattern of all texts of houses

    private static final Pattern HOUSE = housePattern();

    private static Pattern housePattern() {
        String test = "[pkvfds][<=>][0-9][0-9]?";
        String f = test;
        String e = null;
        for (int depth = 4; depth >= 0; depth--) {
            String inner = f;
            if (depth < 4) {
                f = "(?:" + test + "|!" + inner + "|\\(" + e + "\\))";
            }
            String t = f + "(?:&" + f + ")*";
            e = t + "(?:\\|" + t + ")*";
        }
        String clause = "(?:(?:keep|lose) [0-9][0-9]? " + e + "|hours [0-9][0-9]?)";
        return Pattern.compile(clause + "(?:;" + clause + "){0,9}");
    }

    private static boolean begins(String prefix) {
        Matcher m = HOUSE.matcher(prefix);
        return m.matches() || m.hitEnd();
    }

    private static int faultOf(String text) {
        if (HOUSE.matcher(text).matches()) {
            return -1;
        }
        for (int i = 0; i < text.length(); i++) {
            if (!begins(text.substring(0, i + 1))) {
                return i;
            }
        }
        return text.length();
    }

    // ---- runs

    private final Random random;
    private final ButlerRemembers real = new ButlerRemembers();
    private final Model model = new Model();
    private final List<String> calls = new ArrayList<>();
    private int made = 0;

    private ModelTest(long seed) {
        random = new Random(seed);
    }

    private static final int[] WILD = {Integer.MIN_VALUE, Integer.MAX_VALUE, -1, -2, -3, 99, 1000, 61, 21};

    /** Mostly 0 .. top, sometimes just outside, seldom far outside. */
    private int pick(int top) {
        int luck = random.nextInt(40);
        if (luck == 0) return WILD[random.nextInt(WILD.length)];
        if (luck == 1) return -1;
        if (luck == 2) return top + 1;
        if (luck == 3) return top;
        return random.nextInt(top + 1);
    }

    private void same(String call, long got, long want) {
        made++;
        calls.add(call + " = " + want);
        if (got != want) {
            for (String c : calls) {
                System.out.println("  " + c);
            }
            throw new IllegalStateException(call + " answered " + got + ", due is " + want);
        }
    }

    private String expression(int depth) {
        StringBuilder s = new StringBuilder();
        int terms = 1 + random.nextInt(3);
        for (int i = 0; i < terms; i++) {
            if (i > 0) s.append("&|".charAt(random.nextInt(2)));
            int what = random.nextInt(6);
            if (what == 0 && depth < 5) {
                s.append('(').append(expression(depth + 1)).append(')');
            } else {
                if (what == 1) s.append("!!!!!".substring(random.nextInt(5)));
                s.append("pkvfds".charAt(random.nextInt(6))).append("<=>".charAt(random.nextInt(3)));
                s.append(random.nextInt(20) == 0 ? random.nextInt(100) : random.nextInt(10));
            }
        }
        return s.toString();
    }

    private String houseText() {
        StringBuilder s = new StringBuilder();
        int clauses = random.nextInt(20) == 0 ? 9 + random.nextInt(3) : 1 + random.nextInt(4);
        for (int i = 0; i < clauses; i++) {
            if (i > 0) s.append(';');
            if (clauses > 8 || random.nextInt(5) == 0) {
                s.append("hours ").append(random.nextInt(12));
            } else {
                s.append(random.nextBoolean() ? "keep " : "lose ").append(random.nextInt(5));
                s.append(' ').append(expression(0));
            }
        }
        if (random.nextInt(3) == 0 && s.length() > 0) {
            spoil(s);
        }
        return s.substring(0, Math.min(100, s.length()));
    }

    private void spoil(StringBuilder s) {
        int at = random.nextInt(s.length());
        String signs = "keploshours 0123456789;&|!()<=>pkvfds\0x";
        char sign = signs.charAt(random.nextInt(signs.length()));
        switch (random.nextInt(4)) {
            case 0:
                s.setCharAt(at, sign);
                break;
            case 1:
                s.insert(at, sign);
                break;
            case 2:
                s.deleteCharAt(at);
                break;
            default:
                s.setLength(at);
                break;
        }
    }

    private void feedHouse() {
        String text = houseText();
        for (int i = 0; i < text.length() && made < CALLS - 1; i++) {
            int sign = text.charAt(i);
            same("feed(" + sign + ")", real.feed(sign), model.feed(sign));
        }
        same("house()", real.house(), model.house());
    }

    private void build(int what) {
        int a = pick(5);
        int b = pick(255);
        // Near days meet one another more often.
        int c = pick(random.nextBoolean() ? 4 : 20);
        switch (what) {
            case 0: {
                int k = pick(6);
                int v = pick(9);
                same("master(" + k + ", " + v + ")", real.master(k, v), model.master(k, v));
                break;
            }
            case 1:
                same("mind(" + a + ", " + b + ")", real.mind(a, b), model.mind(a, b));
                break;
            case 2:
                same("deed(" + a + ", " + b + ", " + c + ")", real.deed(a, b, c), model.deed(a, b, c));
                break;
            case 3:
                same("footman(" + b + ")", real.footman(b), model.footman(b));
                break;
            case 4: {
                boolean is = random.nextBoolean();
                same("out(" + a + ", " + is + ")", real.out(a, is), model.out(a, is));
                break;
            }
            case 5: {
                int part = pick(3);
                int n = pick(9);
                same("row(" + a + ", " + part + ", " + n + ")", real.row(a, part, n), model.row(a, part, n));
                break;
            }
            case 6: {
                int n = random.nextInt(4) == 0 ? pick(60) : pick(3);
                same("pass(" + n + ")", real.pass(n), model.pass(n));
                break;
            }
            case 7: {
                int f = pick(7);
                boolean keeps = random.nextInt(3) != 0;
                same("see(" + a + ", " + f + ", " + c + ", " + keeps + ")", real.see(a, f, c, keeps),
                    model.see(a, f, c, keeps));
                break;
            }
            case 8: {
                int w = pick(2);
                int n = pick(60);
                n = w == 2 ? a : n;
                same("plan(" + w + ", " + n + ")", real.plan(w, n), model.plan(w, n));
                break;
            }
            case 9: {
                int facts = random.nextBoolean() ? b : Math.max(0, model.of(a, 2));
                same("book(" + a + ", " + facts + ")", real.book(a, facts), model.book(a, facts));
                break;
            }
            default: {
                int f = pick(7);
                same("tell(" + a + ", " + f + ")", real.tell(a, f), model.tell(a, f));
                break;
            }
        }
    }

    private void ask(int what) {
        int a = pick(5);
        int b = pick(255);
        int c = pick(20);
        int n = pick(60);
        int part = pick(1);
        switch (what) {
            case 0: {
                int w = pick(17);
                same("of(" + a + ", " + w + ")", real.of(a, w), model.of(a, w));
                break;
            }
            case 1: {
                int f = pick(7);
                same("grip(" + a + ", " + f + ", " + n + ")", real.grip(a, f, n), model.grip(a, f, n));
                break;
            }
            case 2:
                same("lost(" + a + ")", real.lost(a), model.lost(a));
                break;
            case 3:
            case 4: {
                int w = pick(10);
                same("told(" + w + ")", real.told(w), model.told(w));
                break;
            }
            case 5: {
                int w = random.nextBoolean() ? pick(1) : 10 + pick(5);
                same("on(" + n + ", " + w + ")", real.on(n, w), model.on(n, w));
                break;
            }
            case 6:
                same("wrong()", real.wrong(), model.wrong());
                break;
            case 7:
                same("can(" + a + ", " + part + ")", real.can(a, part), model.can(a, part));
                break;
            case 8: {
                int facts = random.nextBoolean() ? b : b & model.of(a, 2);
                same("knew(" + a + ", " + facts + ", " + c + ", " + part + ")", real.knew(a, facts, c, part),
                    model.knew(a, facts, c, part));
                break;
            }
            case 9: {
                int facts = random.nextBoolean() ? b : b & model.told(7);
                same("odds(" + facts + ", " + part + ")", real.odds(facts, part), model.odds(facts, part));
                break;
            }
            case 10:
                same("mean(" + n + ", " + part + ")", real.mean(n, part), model.mean(n, part));
                break;
            case 11:
                same("ends(" + part + ")", real.ends(part), model.ends(part));
                break;
            case 12:
                same("looked()", real.looked(), model.looked());
                break;
            case 13: {
                int act = pick(2);
                int x = random.nextInt(5) == 0 ? random.nextInt() : random.nextInt(20);
                same("act(" + a + ", " + act + ", " + x + ")", real.act(a, act, x), model.act(a, act, x));
                break;
            }
            case 14: {
                int i = pick(12);
                same("trace(" + i + ")", real.trace(i), model.trace(i));
                break;
            }
            case 15: {
                int k = pick(6);
                same("taken(" + a + ", " + k + ")", real.taken(a, k), model.taken(a, k));
                break;
            }
            default: {
                int w = pick(8);
                same("count(" + w + ")", real.count(w), model.count(w));
                break;
            }
        }
    }

    private void useTapes(int what) {
        int t = pick(5);
        int i = pick(6);
        switch (what) {
            case 0: {
                int sort = random.nextBoolean() ? 1 : pick(5) - 1;
                int n = random.nextInt(4) == 0 ? pick(60) : pick(8);
                same("tape(" + t + ", " + sort + ", " + n + ")", real.tape(t, sort, n), model.tape(t, sort, n));
                break;
            }
            case 1: {
                long v = random.nextInt(3) == 0 ? random.nextLong() : model.of(i, 2);
                same("item(" + t + ", " + i + ", " + v + ")", real.item(t, i, v), model.item(t, i, v));
                break;
            }
            case 2:
                same("read(" + t + ", " + i + ")", real.read(t, i), model.read(t, i));
                break;
            case 3: {
                int other = pick(5);
                int j = pick(6);
                int n = pick(4);
                same("shift(" + t + ", " + i + ", " + other + ", " + j + ", " + n + ")",
                    real.shift(t, i, other, j, n), model.shift(t, i, other, j, n));
                break;
            }
            case 4:
                tellMindsByTape(t);
                break;
            default:
                same("judge(" + t + ", " + i + ")", real.judge(t, i), model.judge(t, i));
                break;
        }
    }

    private void tellMindsByTape(int tape) {
        int from = random.nextInt(3);
        int n = random.nextInt(10);
        same("tape(" + tape + ", 1, " + n + ")", real.tape(tape, 1, n), model.tape(tape, 1, n));
        for (int p = 0; p < model.count(0) && made < CALLS - 1; p++) {
            int i = from + p;
            long v = model.of(p, 2);
            same("item(" + tape + ", " + i + ", " + v + ")", real.item(tape, i, v), model.item(tape, i, v));
        }
        same("judge(" + tape + ", " + from + ")", real.judge(tape, from), model.judge(tape, from));
    }

    /** Half of all runs begin with a full house, so that what is asked has something to go by. */
    private void furnish() {
        if (random.nextBoolean()) {
            return;
        }
        for (int i = 0; i < 4; i++) {
            build(0);
            build(2);
            build(3);
        }
        feedHouse();
        for (int i = 0; i < 6; i++) {
            build(1);
            build(2);
            build(7 + i % 3);
        }
    }

    private void run() {
        furnish();
        while (made < CALLS) {
            int luck = random.nextInt(100);
            if (luck < 25) {
                build(random.nextInt(11));
            } else if (luck < 28) {
                feedHouse();
            } else if (luck < 30) {
                same("image()", real.image(), model.image());
            } else if (luck < 32) {
                same("undo()", real.undo(), model.undo());
            } else if (luck < 45) {
                useTapes(random.nextInt(6));
            } else {
                ask(random.nextInt(17));
            }
        }
    }

    public static void main(String[] args) {
        long total = 0;
        for (int seed = 0; seed < RUNS; seed++) {
            ModelTest test = new ModelTest(seed);
            try {
                test.run();
            } catch (RuntimeException e) {
                System.out.println("seed " + seed + ": " + e);
                e.printStackTrace(System.out);
                System.exit(1);
            }
            total += test.made;
        }
        System.out.println(total + " answers are as the model's");
    }
}
