import java.util.ArrayDeque;
import java.util.ArrayList;
import java.util.Arrays;
import java.util.Deque;
import java.util.HashMap;
import java.util.List;
import java.util.Map;
import java.util.Random;
import java.util.function.ToLongFunction;

/**
 * A house with its text, and all that acts change: a second model, written from the document alone. It makes each
 * formula with its meaning, so it needs no reader of its own.
 */
final class Model {
    String text;
    int statements;
    final int rooms;
    final List<int[]> stairs = new ArrayList<>();
    final List<int[]> clerks = new ArrayList<>();
    Formula turns = new Formula("", e -> 0);
    Formula dear = new Formula("", e -> e.get("long"));
    int hears = 3;
    int signs = 2;
    int smoke;
    int drills;
    int[] posts;
    boolean[] shut;
    Map<Integer, Integer> signed = new HashMap<>();
    List<int[]> seen = new ArrayList<>();
    long seed = 1;
    final Deque<Object[]> past = new ArrayDeque<>();

    Model(Random random) {
        List<String> lines = new ArrayList<>();
        rooms = 1 + random.nextInt(8);
        for (int k = 0; k < rooms; k++) {
            lines.add("room r" + (char) ('a' + k));
        }
        for (int k = 0; k < 14 && stairs.size() < 10; k++) {
            int a = random.nextInt(rooms);
            int b = random.nextInt(4) == 0 ? 0 : random.nextInt(rooms);
            if (a != b && stairs.stream().noneMatch(s -> s[0] == a && s[1] == b || s[0] == b && s[1] == a)) {
                int wide = 1 + random.nextInt(2 + random.nextInt(3));
                stairs.add(new int[] {a, b, wide});
                lines.add("stair r" + (char) ('a' + a) + " to r" + (char) ('a' + b) + " wide " + wide);
            }
        }
        posts = new int[random.nextInt(6)];
        for (int k = 0; k < posts.length; k++) {
            posts[k] = random.nextInt(21);
            lines.add("part s" + (char) ('a' + k) + " post " + posts[k]);
        }
        int wanted = posts.length == 0 ? 0 : random.nextInt(9);
        for (int k = 0; k < wanted; k++) {
            int[] c = {random.nextInt(rooms), random.nextInt(posts.length), 1 + random.nextInt(3), random.nextInt(10)};
            clerks.add(c);
            lines.add("clerk c" + (char) ('a' + k) + " in r" + (char) ('a' + c[0]) + " of s" + (char) ('a' + c[1])
                + " pace " + c[2] + " bag " + c[3]);
        }
        settings(random, lines);
        shut = new boolean[stairs.size()];
        statements = lines.size();
        text = String.join(random.nextBoolean() ? ";" : " ;\n", lines) + (lines.isEmpty() ? "" : ";");
        if (text.length() > 1600) {
            throw new IllegalStateException("the text is too long: " + text.length());
        }
    }

    private void settings(Random random, List<String> lines) {
        if (random.nextInt(3) > 0) {
            turns = new Maker(random, "pace bag drill minute crowd", false).test(1);
            if (random.nextBoolean()) {
                Formula a = turns;
                int late = random.nextInt(8);
                turns = new Formula("minute>" + late + " and [" + a.text + "]", e -> e.get("minute") > late ? a.value.applyAsLong(e) : 0);
            }
            lines.add("turns " + turns.text);
        }
        if (random.nextInt(3) > 0) {
            dear = new Maker(random, "pace bag drill other long long", false).sum(2);
            lines.add("dear " + dear.text);
        }
        if (random.nextInt(3) > 0) {
            hears = random.nextInt(21);
            lines.add("hears " + hears);
        }
        if (random.nextInt(3) > 0) {
            signs = 1 + random.nextInt(9);
            lines.add("signs " + signs);
        }
        if (random.nextInt(3) > 0) {
            smoke = random.nextInt(101);
            lines.add("smoke " + smoke);
        }
    }

    int signedOf(int c, int d) {
        return signed.getOrDefault(Math.min(c, d) * 10 + Math.max(c, d), 0);
    }

    int signedInAll() {
        return signed.values().stream().mapToInt(v -> v).sum();
    }

    private Object[] asItIs() {
        return new Object[] {drills, posts.clone(), shut.clone(), new HashMap<>(signed)};
    }

    /** Ahead of an act: the last twenty can be undone. */
    void keep() {
        past.push(asItIs());
        if (past.size() > 20) {
            past.removeLast();
        }
    }

    boolean undo() {
        if (past.isEmpty()) {
            return false;
        }
        put(past.pop());
        return true;
    }

    @SuppressWarnings("unchecked")
    private void put(Object[] then) {
        drills = (Integer) then[0];
        posts = (int[]) then[1];
        shut = (boolean[]) then[2];
        signed = (Map<Integer, Integer>) then[3];
    }

    int later(int n) {
        Object[] now = asItIs();
        hold(n);
        int then = signedInAll();
        put(now);
        return then;
    }

    int hold(int n) {
        int signings = 0;
        for (int k = 0; k < n; k++) {
            signings += holdOne(-1);
        }
        return signings;
    }

    int holdBySeed(int n) {
        int smokes = 0;
        for (int k = 0; k < n; k++) {
            int stair = -1;
            if (!stairs.isEmpty() && draw(100) < smoke) {
                stair = draw(stairs.size());
                smokes++;
            }
            holdOne(stair);
        }
        return smokes;
    }

    private int draw(int m) {
        seed = (1103515245L * seed + 12345) % (1L << 31);
        return (int) (seed / 64 % m);
    }

    private int holdOne(int smoky) {
        Run run = new Run(this, smoky, -1);
        int signings = 0;
        for (int c = 0; c < clerks.size(); c++) {
            for (int d = c + 1; d < clerks.size(); d++) {
                if (run.meets(c, d) >= signs) {
                    signed.merge(c * 10 + d, 1, (was, one) -> Math.min(9999, was + one));
                    signings++;
                }
            }
        }
        drills++;
        return signings;
    }

    void see(Random random, FireDrill x, Check check) {
        if (clerks.isEmpty()) {
            return;
        }
        int stair = random.nextInt(stairs.size() + 1) - 1;
        Run run = new Run(this, stair, -1);
        int[] bytes = new int[2 * (1 + random.nextInt(3))];
        seen = new ArrayList<>();
        for (int k = 0; k < bytes.length; k += 2) {
            int c = random.nextInt(clerks.size());
            int out = random.nextInt(12) == 0 ? random.nextInt(9) : run.out[c];
            bytes[k] = c;
            bytes[k + 1] = out < 0 ? 255 : out;
            seen.add(new int[] {c, out});
        }
        Check.tape(x, bytes);
        check.is("see()", x.see(), seen.size());
    }

    /** A text and what it means. */
    static final class Formula {
        final String text;
        final ToLongFunction<Map<String, Long>> value;

        Formula(String text, ToLongFunction<Map<String, Long>> value) {
            this.text = text;
            this.value = value;
        }
    }

    /** Makes formulas; at the most six of ( [ not meets are open at once. */
    static final class Maker {
        private final Random random;
        private final String[] leaves;
        private final boolean withMeets;

        Maker(Random random, String leaves, boolean withMeets) {
            this.random = random;
            this.leaves = leaves.split(" ");
            this.withMeets = withMeets;
        }

        private String blank() {
            return random.nextInt(4) == 0 ? "\n" : " ";
        }

        Formula test(int deep) {
            Formula f = both(deep);
            for (int k = random.nextInt(3); k > 1; k--) {
                Formula a = f;
                Formula b = both(deep);
                f = new Formula(a.text + blank() + "or" + blank() + b.text, e -> Math.max(a.value.applyAsLong(e), b.value.applyAsLong(e)));
            }
            return f;
        }

        private Formula both(int deep) {
            Formula f = fact(deep);
            for (int k = random.nextInt(3); k > 1; k--) {
                Formula a = f;
                Formula b = fact(deep);
                f = new Formula(a.text + blank() + "and" + blank() + b.text, e -> Math.min(a.value.applyAsLong(e), b.value.applyAsLong(e)));
            }
            return f;
        }

        private Formula fact(int deep) {
            int kind = random.nextInt(deep > 0 ? 10 : 8);
            if (kind == 8) {
                Formula a = fact(deep - 1);
                return new Formula("not" + blank() + a.text, e -> 1 - a.value.applyAsLong(e));
            }
            if (kind == 9) {
                Formula a = test(deep - 1);
                return new Formula("[" + a.text + "]", a.value);
            }
            if (kind == 7) {
                return new Formula("all", e -> 1);
            }
            Formula a = sum(deep);
            Formula b = sum(deep);
            int sign = random.nextInt(3);
            return new Formula(a.text + "<>=".charAt(sign) + b.text, e -> {
                int order = Long.compare(a.value.applyAsLong(e), b.value.applyAsLong(e));
                return sign == 0 && order < 0 || sign == 1 && order > 0 || sign == 2 && order == 0 ? 1 : 0;
            });
        }

        private static long within(long v) {
            return Math.max(-1000000, Math.min(1000000, v));
        }

        Formula sum(int deep) {
            Formula f = product(deep);
            for (int k = random.nextInt(3); k > 0; k--) {
                Formula a = f;
                Formula b = product(deep);
                boolean plus = random.nextBoolean();
                f = new Formula(a.text + (plus ? "+" : "-") + b.text,
                    e -> within(a.value.applyAsLong(e) + (plus ? 1 : -1) * b.value.applyAsLong(e)));
            }
            return f;
        }

        private Formula product(int deep) {
            Formula f = part(deep);
            for (int k = random.nextInt(4); k > 2; k--) {
                Formula a = f;
                Formula b = part(deep);
                boolean times = random.nextBoolean();
                f = new Formula(a.text + (times ? "*" : " / ") + b.text, e -> {
                    long left = a.value.applyAsLong(e);
                    long right = b.value.applyAsLong(e);
                    if (times) {
                        return within(left * right);
                    }
                    return right == 0 ? 0 : (long) Math.floor((double) left / right);
                });
            }
            return f;
        }

        private Formula part(int deep) {
            int kind = random.nextInt(deep > 0 ? 12 : 9);
            if (kind < 3) {
                int n = random.nextInt(5) == 0 ? random.nextInt(10000) : random.nextInt(10);
                return new Formula(Integer.toString(n), e -> n);
            }
            if (kind < 9) {
                String leaf = leaves[random.nextInt(leaves.length)];
                return new Formula(leaf, e -> e.get(leaf));
            }
            if (kind == 9) {
                Formula a = sum(deep - 1);
                return new Formula("(" + a.text + ")", a.value);
            }
            if (kind == 10 && withMeets) {
                Formula a = part(deep - 1);
                return new Formula("meets " + a.text, e -> e.getOrDefault("met" + a.value.applyAsLong(e), 0L));
            }
            Formula a = sum(deep - 1);
            Formula b = sum(deep - 1);
            boolean min = random.nextBoolean();
            return new Formula((min ? "min(" : "max (") + a.text + "," + b.text + ")", e -> {
                long left = a.value.applyAsLong(e);
                long right = b.value.applyAsLong(e);
                return min ? Math.min(left, right) : Math.max(left, right);
            });
        }
    }

    /** One drill, as part II tells it. */
    static final class Run {
        final Model m;
        final int[] far;
        final int[] out;
        final int[] back;
        final int[][] where;
        final List<boolean[]> lawn = new ArrayList<>();
        int empty;

        Run(Model m, int smoky, int widened) {
            this.m = m;
            int clerks = m.clerks.size();
            far = distances(smoky);
            out = new int[clerks];
            back = new int[clerks];
            where = new int[9][clerks];
            Arrays.fill(out, 99);
            Arrays.fill(back, -1);
            int[] at = m.clerks.stream().mapToInt(c -> c[0]).toArray();
            boolean[] stands = new boolean[clerks];
            boolean someInside = false;
            for (int c = 0; c < clerks; c++) {
                stands[c] = at[c] == 0;
                out[c] = stands[c] ? -1 : 99;
                someInside |= !stands[c];
            }
            empty = someInside ? 99 : -1;
            for (int minute = 0; minute < 9; minute++) {
                boolean[] before = stands.clone();
                int[] gone = new int[m.stairs.size()];
                for (int c = 0; c < clerks; c++) {
                    if (back[c] >= 0) {
                        continue;
                    }
                    if (before[c]) {
                        if (turns(c, minute, stands)) {
                            back[c] = minute;
                            stands[c] = false;
                        }
                        continue;
                    }
                    at[c] = walk(c, at[c], gone, smoky, widened);
                    if (at[c] == 0) {
                        stands[c] = true;
                        out[c] = minute;
                    }
                }
                boolean nobody = true;
                for (int c = 0; c < clerks; c++) {
                    where[minute][c] = back[c] >= 0 ? m.clerks.get(c)[0] : at[c];
                    nobody &= stands[c];
                }
                empty = empty == 99 && nobody ? minute : empty;
                lawn.add(stands.clone());
            }
        }

        private int[] distances(int smoky) {
            int[] distance = new int[m.rooms];
            Arrays.fill(distance, -1);
            Deque<Integer> open = new ArrayDeque<>();
            distance[0] = 0;
            open.add(0);
            while (!open.isEmpty()) {
                int room = open.remove();
                for (int k = 0; k < m.stairs.size(); k++) {
                    int[] s = m.stairs.get(k);
                    int to = s[0] == room ? s[1] : s[1] == room ? s[0] : -1;
                    if (!m.shut[k] && k != smoky && to >= 0 && distance[to] < 0) {
                        distance[to] = distance[room] + 1;
                        open.add(to);
                    }
                }
            }
            return distance;
        }

        private boolean turns(int c, int minute, boolean[] stands) {
            long crowd = 0;
            for (int d = 0; d < stands.length; d++) {
                crowd += d != c && stands[d] ? 1 : 0;
            }
            int[] clerk = m.clerks.get(c);
            return m.turns.value.applyAsLong(Map.of("pace", (long) clerk[2], "bag", (long) clerk[3], "drill", (long) m.drills,
                "minute", (long) minute, "crowd", crowd)) == 1;
        }

        private int walk(int c, int from, int[] gone, int smoky, int widened) {
            int room = from;
            for (int k = 0; k < m.clerks.get(c)[2] && room != 0 && far[room] > 0; k++) {
                int next = -1;
                for (int to = m.rooms - 1; to >= 0; to--) {
                    int stair = between(room, to);
                    if (far[to] == far[room] - 1 && stair >= 0 && !m.shut[stair] && stair != smoky
                        && gone[stair] < m.stairs.get(stair)[2] + (stair == widened ? 1 : 0)) {
                        next = to;
                    }
                }
                if (next < 0) {
                    return room;
                }
                gone[between(room, next)]++;
                room = next;
            }
            return room;
        }

        private int between(int a, int b) {
            for (int k = 0; k < m.stairs.size(); k++) {
                int[] s = m.stairs.get(k);
                if (s[0] == a && s[1] == b || s[0] == b && s[1] == a) {
                    return k;
                }
            }
            return -1;
        }

        long meets(int c, int d) {
            return meetsAt(c, d, m.posts);
        }

        private long meetsAt(int c, int d, int[] posts) {
            int apart = Math.abs(posts[m.clerks.get(c)[1]] - posts[m.clerks.get(d)[1]]);
            return apart > m.hears ? 0 : lawn.stream().filter(stands -> stands[c] && stands[d]).count();
        }

        int signing(int[] posts) {
            int pairs = 0;
            for (int c = 0; c < out.length; c++) {
                for (int d = c + 1; d < out.length; d++) {
                    pairs += meetsAt(c, d, posts) >= m.signs ? 1 : 0;
                }
            }
            return pairs;
        }

        long dear(int c, int d) {
            return dearTo(c, d) + dearTo(d, c);
        }

        private long dearTo(int c, int d) {
            int[] clerk = m.clerks.get(c);
            return m.dear.value.applyAsLong(Map.of("pace", (long) clerk[2], "bag", (long) clerk[3], "drill", (long) m.drills,
                "other", (long) m.clerks.get(d)[3], "long", meets(c, d)));
        }

        long worth(int[] row) {
            long sum = 0;
            for (int c = 0; c < row.length; c++) {
                sum += row[c] > c ? dear(c, row[c]) : 0;
            }
            return sum;
        }
    }
}
