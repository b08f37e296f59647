import java.util.ArrayDeque;
import java.util.ArrayList;
import java.util.Arrays;
import java.util.Comparator;
import java.util.Deque;
import java.util.HashMap;
import java.util.List;
import java.util.Map;
import java.util.Random;
import java.util.function.ToLongFunction;

/**
 * Houses and calls by fixed seeds, each answer held against a second model that was written from the document alone:
 * it makes each formula with its meaning (so it needs no reader of its own) and searches by trying everything.
 */
public final class OracleTest {
    private static final Check CHECK = new Check("OracleTest");
    private static final int HOUSES = 700;
    private static final int ACTS = 12;

    public static void main(String[] args) {
        FireDrill x = new FireDrill();
        long drawn = 1;
        for (int seed = 1; seed <= HOUSES; seed++) {
            Random random = new Random(seed);
            Model model = new Model(random);
            // Mostly one object for several houses: nothing of the one may show in the next.
            if (seed % 5 == 0) {
                x = new FireDrill();
                drawn = 1;
            }
            model.seed = drawn;
            Check.tape(x, model.text);
            CHECK.is("house() " + model.text, x.house(), model.statements);
            compare(model, x, random, "seed " + seed + " at first: ");
            for (int k = 0; k < ACTS; k++) {
                String act = act(model, x, random);
                compare(model, x, random, "seed " + seed + " act " + k + " " + act + ": ");
            }
            drawn = model.seed;
        }
        CHECK.finish();
    }

    private static String act(Model m, FireDrill x, Random random) {
        int n = 1 + random.nextInt(4);
        switch (random.nextInt(8)) {
            case 0: {
                int section = random.nextInt(6);
                int post = random.nextInt(21);
                boolean may = section < m.posts.length && m.posts[section] != post;
                if (may) {
                    m.keep();
                    m.posts[section] = post;
                }
                CHECK.is("post", x.post(section, post), may);
                return "post";
            }
            case 1: {
                int stair = random.nextInt(Math.max(1, m.stairs.size() + 1));
                int on = random.nextInt(2);
                boolean may = stair < m.stairs.size() && m.shut[stair] != (on == 1);
                if (may) {
                    m.keep();
                    m.shut[stair] = on == 1;
                }
                CHECK.is("shut", x.shut(stair, on), may);
                return "shut";
            }
            case 2:
                m.keep();
                CHECK.is("drills", x.drills(n), m.hold(n));
                return "drills";
            case 3:
                m.keep();
                CHECK.is("chance", x.chance(n), m.holdBySeed(n));
                return "chance";
            case 4:
                CHECK.is("undo", x.undo(), m.undo());
                return "undo";
            case 5: {
                int seed = random.nextInt(1 << 30) * 2 + random.nextInt(2);
                CHECK.is("seed", x.seed(seed), seed >= 0);
                m.seed = seed >= 0 ? seed : m.seed;
                return "seed";
            }
            case 6: {
                // A house with a fault at its end leaves all as it was.
                String other = new Model(random).text;
                Check.tape(x, other.substring(0, other.length() - 1));
                CHECK.is("house() with a fault", x.house(), -1);
                CHECK.is("fault(1)", x.fault(1), other.length() - 1);
                return "fault";
            }
            default:
                m.see(random, x);
                return "see";
        }
    }

    private static void compare(Model m, FireDrill x, Random random, String head) {
        Run run = new Run(m, -1, -1);
        int clerks = m.clerks.size();
        CHECK.is(head + "has(4)", x.has(4), m.drills);
        CHECK.is(head + "has(6)", x.has(6), m.signed.values().stream().mapToInt(v -> v).sum());
        CHECK.is(head + "has(7)", x.has(7), m.seen.size());
        CHECK.is(head + "has(8)", x.has(8), m.past.size());
        for (int room = 0; room < m.rooms; room++) {
            CHECK.is(head + "far(" + room + ")", x.far(room), run.far[room]);
        }
        for (int c = 0; c < clerks; c++) {
            CHECK.is(head + "out(" + c + ")", x.out(c), run.out[c]);
            CHECK.is(head + "back(" + c + ")", x.back(c), run.back[c]);
            for (int minute = 0; minute < 9; minute++) {
                CHECK.is(head + "where(" + c + ", " + minute + ")", x.where(c, minute), run.where[minute][c]);
            }
            for (int d = 0; d < clerks; d++) {
                if (c != d) {
                    CHECK.is(head + "meets(" + c + ", " + d + ")", x.meets(c, d), run.meets(c, d));
                    CHECK.is(head + "dear(" + c + ", " + d + ")", x.dear(c, d), run.dear(c, d));
                    CHECK.is(head + "signed(" + c + ", " + d + ")", x.signed(c, d), m.signedOf(c, d));
                }
            }
        }
        CHECK.is(head + "empty()", x.empty(), run.empty);
        CHECK.is(head + "signs()", x.signs(), run.signing(m.posts));
        comparePosts(m, x, run, head);
        compareCouples(x, run, clerks, head);
        CHECK.is(head + "wider()", x.wider(), wider(m, run.empty));
        CHECK.is(head + "wardens()", x.wardens(), wardens(m));
        int n = random.nextInt(6);
        m.keep();
        m.hold(n);
        int later = m.signed.values().stream().mapToInt(v -> v).sum();
        m.undo();
        CHECK.is(head + "later(" + n + ")", x.later(n), later);
        compareSuspects(m, x, head);
        compareQuestion(m, x, run, random, head);
    }

    private static void comparePosts(Model m, FireDrill x, Run run, String head) {
        List<int[]> rows = new ArrayList<>();
        permutations(new ArrayList<>(), m.posts.length, rows);
        int[] best = null;
        int most = -1;
        for (int[] row : rows) {
            int[] posts = new int[row.length];
            for (int k = 0; k < row.length; k++) {
                posts[k] = m.posts[row[k]];
            }
            int signing = run.signing(posts);
            if (signing > most || signing == most && Arrays.compare(row, best) < 0) {
                most = signing;
                best = row;
            }
        }
        CHECK.is(head + "posts(-1)", x.posts(-1), most);
        for (int k = 0; best != null && k < best.length; k++) {
            CHECK.is(head + "posts(" + k + ")", x.posts(k), best[k]);
        }
    }

    private static void permutations(List<Integer> row, int n, List<int[]> into) {
        if (row.size() == n) {
            into.add(row.stream().mapToInt(v -> v).toArray());
            return;
        }
        for (int k = n - 1; k >= 0; k--) {
            if (!row.contains(k)) {
                row.add(k);
                permutations(row, n, into);
                row.remove(row.size() - 1);
            }
        }
    }

    private static void compareCouples(FireDrill x, Run run, int clerks, String head) {
        List<int[]> rows = new ArrayList<>();
        int[] alone = new int[clerks];
        Arrays.fill(alone, -1);
        matchings(run, alone, 0, 1, rows);
        rows.sort(Comparator.comparingLong((int[] row) -> -run.worth(row)).thenComparing(Arrays::compare));
        CHECK.is(head + "couples()", x.couples(), run.worth(rows.get(0)));
        for (int c = 0; c < clerks; c++) {
            CHECK.is(head + "with(" + c + ")", x.with(c), rows.get(0)[c]);
        }
    }

    /** Pair by pair, taken or left. */
    private static void matchings(Run run, int[] row, int one, int other, List<int[]> into) {
        if (one >= row.length) {
            into.add(row.clone());
        } else if (other >= row.length) {
            matchings(run, row, one + 1, one + 2, into);
        } else {
            if (row[one] < 0 && row[other] < 0 && run.meets(one, other) > 0) {
                row[one] = other;
                row[other] = one;
                matchings(run, row, one, other + 1, into);
                row[one] = -1;
                row[other] = -1;
            }
            matchings(run, row, one, other + 1, into);
        }
    }

    private static int wider(Model m, int without) {
        int best = -1;
        int soonest = without;
        for (int k = 0; k < m.stairs.size(); k++) {
            int empty = m.shut[k] ? 1000 : new Run(m, -1, k).empty;
            if (empty < soonest) {
                soonest = empty;
                best = k;
            }
        }
        return best;
    }

    private static int wardens(Model m) {
        int best = -1;
        for (int bits = 0; bits < 1 << m.rooms; bits++) {
            boolean all = true;
            for (int k = 0; k < m.stairs.size(); k++) {
                int[] s = m.stairs.get(k);
                all &= m.shut[k] || (bits & (1 << s[0] | 1 << s[1])) != 0;
            }
            if (all && (best < 0 || Integer.bitCount(bits) < Integer.bitCount(best))) {
                best = bits;
            }
        }
        return best;
    }

    private static void compareSuspects(Model m, FireDrill x, String head) {
        List<int[]> left = new ArrayList<>();
        int bits = 0;
        int none = 0;
        for (int k = -1; k < m.stairs.size(); k++) {
            if (k >= 0 && m.shut[k]) {
                continue;
            }
            int[] out = new Run(m, k, -1).out;
            if (m.seen.stream().allMatch(row -> out[row[0]] == row[1])) {
                left.add(out);
                none = k < 0 ? 1 : none;
                bits |= k < 0 ? 0 : 1 << k;
            }
        }
        int whom = -1;
        int fewest = -1;
        for (int c = 0; c < m.clerks.size() && !left.isEmpty(); c++) {
            Map<Integer, Integer> groups = new HashMap<>();
            for (int[] out : left) {
                groups.merge(out[c], 1, Integer::sum);
            }
            int most = groups.values().stream().mapToInt(v -> v).max().orElse(0);
            if (whom < 0 || most < fewest) {
                whom = c;
                fewest = most;
            }
        }
        CHECK.is(head + "shuts(0)", x.shuts(0), bits);
        CHECK.is(head + "shuts(1)", x.shuts(1), none);
        CHECK.is(head + "whom(0)", x.whom(0), whom);
        CHECK.is(head + "whom(1)", x.whom(1), fewest);
    }

    private static void compareQuestion(Model m, FireDrill x, Run run, Random random, String head) {
        String[] kinds = {"first", "last", "often", "total", "most", "least"};
        int kind = random.nextInt(6);
        Maker maker = new Maker(random, "number pace bag post out signed drill", true);
        Formula formula = kind < 3 ? maker.test(3) : maker.sum(3);
        List<Long> values = new ArrayList<>();
        for (int c = 0; c < m.clerks.size(); c++) {
            int[] clerk = m.clerks.get(c);
            Map<String, Long> env = new HashMap<>();
            env.put("number", (long) c);
            env.put("pace", (long) clerk[2]);
            env.put("bag", (long) clerk[3]);
            env.put("post", (long) m.posts[clerk[1]]);
            env.put("out", (long) run.out[c]);
            env.put("drill", (long) m.drills);
            long signed = 0;
            for (int d = 0; d < m.clerks.size(); d++) {
                signed += d == c ? 0 : m.signedOf(c, d);
                env.put("met" + d, d == c ? 0L : run.meets(c, d));
            }
            env.put("signed", signed);
            values.add(formula.value.applyAsLong(env));
        }
        long due;
        if (kind == 0) {
            due = values.indexOf(1L);
        } else if (kind == 1) {
            due = values.lastIndexOf(1L);
        } else if (kind == 2 || kind == 3) {
            due = values.stream().mapToLong(v -> v).sum();
        } else if (kind == 4) {
            due = values.stream().mapToLong(v -> v).max().orElse(0);
        } else {
            due = values.stream().mapToLong(v -> v).min().orElse(0);
        }
        String question = kinds[kind] + " " + formula.text;
        Check.tape(x, question);
        CHECK.is(head + question, x.ask(), due);
        CHECK.is(head + question + " fault", x.fault(0), 0);
    }

    /** A text and what it means. */
    private static final class Formula {
        final String text;
        final ToLongFunction<Map<String, Long>> value;

        Formula(String text, ToLongFunction<Map<String, Long>> value) {
            this.text = text;
            this.value = value;
        }
    }

    /** Makes formulas; at the most six of ( [ not meets are open at once. */
    private static final class Maker {
        private final Random random;
        private final String[] leaves;
        private final boolean withMeets;

        Maker(Random random, String leaves, boolean withMeets) {
            this.random = random;
            this.leaves = leaves.split(" ");
            this.withMeets = withMeets;
        }

        private String blank() {
            return random.nextInt(4) == 0 ? "\n" : " ";
        }

        Formula test(int deep) {
            Formula f = both(deep);
            for (int k = random.nextInt(3); k > 1; k--) {
                Formula a = f;
                Formula b = both(deep);
                f = new Formula(a.text + blank() + "or" + blank() + b.text, e -> Math.max(a.value.applyAsLong(e), b.value.applyAsLong(e)));
            }
            return f;
        }

        private Formula both(int deep) {
            Formula f = fact(deep);
            for (int k = random.nextInt(3); k > 1; k--) {
                Formula a = f;
                Formula b = fact(deep);
                f = new Formula(a.text + blank() + "and" + blank() + b.text, e -> Math.min(a.value.applyAsLong(e), b.value.applyAsLong(e)));
            }
            return f;
        }

        private Formula fact(int deep) {
            int kind = random.nextInt(deep > 0 ? 10 : 8);
            if (kind == 8) {
                Formula a = fact(deep - 1);
                return new Formula("not" + blank() + a.text, e -> 1 - a.value.applyAsLong(e));
            }
            if (kind == 9) {
                Formula a = test(deep - 1);
                return new Formula("[" + a.text + "]", a.value);
            }
            if (kind == 7) {
                return new Formula("all", e -> 1);
            }
            Formula a = sum(deep);
            Formula b = sum(deep);
            int sign = random.nextInt(3);
            return new Formula(a.text + "<>=".charAt(sign) + b.text, e -> {
                int order = Long.compare(a.value.applyAsLong(e), b.value.applyAsLong(e));
                return sign == 0 && order < 0 || sign == 1 && order > 0 || sign == 2 && order == 0 ? 1 : 0;
            });
        }

        private static long within(long v) {
            return Math.max(-1000000, Math.min(1000000, v));
        }

        Formula sum(int deep) {
            Formula f = product(deep);
            for (int k = random.nextInt(3); k > 0; k--) {
                Formula a = f;
                Formula b = product(deep);
                boolean plus = random.nextBoolean();
                f = new Formula(a.text + (plus ? "+" : "-") + b.text,
                    e -> within(a.value.applyAsLong(e) + (plus ? 1 : -1) * b.value.applyAsLong(e)));
            }
            return f;
        }

        private Formula product(int deep) {
            Formula f = part(deep);
            for (int k = random.nextInt(4); k > 2; k--) {
                Formula a = f;
                Formula b = part(deep);
                boolean times = random.nextBoolean();
                f = new Formula(a.text + (times ? "*" : " / ") + b.text, e -> {
                    long left = a.value.applyAsLong(e);
                    long right = b.value.applyAsLong(e);
                    if (times) {
                        return within(left * right);
                    }
                    return right == 0 ? 0 : (long) Math.floor((double) left / right);
                });
            }
            return f;
        }

        private Formula part(int deep) {
            int kind = random.nextInt(deep > 0 ? 12 : 9);
            if (kind < 3) {
                int n = random.nextInt(5) == 0 ? random.nextInt(10000) : random.nextInt(10);
                return new Formula(Integer.toString(n), e -> n);
            }
            if (kind < 9) {
                String leaf = leaves[random.nextInt(leaves.length)];
                return new Formula(leaf, e -> e.get(leaf));
            }
            if (kind == 9) {
                Formula a = sum(deep - 1);
                return new Formula("(" + a.text + ")", a.value);
            }
            if (kind == 10 && withMeets) {
                Formula a = part(deep - 1);
                return new Formula("meets " + a.text, e -> e.getOrDefault("met" + a.value.applyAsLong(e), 0L));
            }
            Formula a = sum(deep - 1);
            Formula b = sum(deep - 1);
            boolean min = random.nextBoolean();
            return new Formula((min ? "min(" : "max (") + a.text + "," + b.text + ")", e -> {
                long left = a.value.applyAsLong(e);
                long right = b.value.applyAsLong(e);
                return min ? Math.min(left, right) : Math.max(left, right);
            });
        }
    }

    /** A house with its text, and all that acts change. */
    private static final class Model {
        String text;
        int statements;
        final int rooms;
        final List<int[]> stairs = new ArrayList<>();
        final List<int[]> clerks = new ArrayList<>();
        Formula turns = new Formula("", e -> 0);
        Formula dear = new Formula("", e -> e.get("long"));
        int hears = 3;
        int signs = 2;
        int smoke;
        int drills;
        int[] posts;
        boolean[] shut;
        Map<Integer, Integer> signed = new HashMap<>();
        List<int[]> seen = new ArrayList<>();
        long seed = 1;
        final Deque<Object[]> past = new ArrayDeque<>();

        Model(Random random) {
            List<String> lines = new ArrayList<>();
            rooms = 1 + random.nextInt(8);
            for (int k = 0; k < rooms; k++) {
                lines.add("room r" + (char) ('a' + k));
            }
            for (int k = 0; k < 14 && stairs.size() < 10; k++) {
                int a = random.nextInt(rooms);
                int b = random.nextInt(4) == 0 ? 0 : random.nextInt(rooms);
                if (a != b && stairs.stream().noneMatch(s -> s[0] == a && s[1] == b || s[0] == b && s[1] == a)) {
                    int wide = 1 + random.nextInt(2 + random.nextInt(3));
                    stairs.add(new int[] {a, b, wide});
                    lines.add("stair r" + (char) ('a' + a) + " to r" + (char) ('a' + b) + " wide " + wide);
                }
            }
            posts = new int[random.nextInt(6)];
            for (int k = 0; k < posts.length; k++) {
                posts[k] = random.nextInt(21);
                lines.add("part s" + (char) ('a' + k) + " post " + posts[k]);
            }
            int wanted = posts.length == 0 ? 0 : random.nextInt(9);
            for (int k = 0; k < wanted; k++) {
                int[] c = {random.nextInt(rooms), random.nextInt(posts.length), 1 + random.nextInt(3), random.nextInt(10)};
                clerks.add(c);
                lines.add("clerk c" + (char) ('a' + k) + " in r" + (char) ('a' + c[0]) + " of s" + (char) ('a' + c[1])
                    + " pace " + c[2] + " bag " + c[3]);
            }
            settings(random, lines);
            shut = new boolean[stairs.size()];
            statements = lines.size();
            text = String.join(random.nextBoolean() ? ";" : " ;\n", lines) + (lines.isEmpty() ? "" : ";");
            if (text.length() > 1600) {
                throw new IllegalStateException("the text is too long: " + text.length());
            }
        }

        private void settings(Random random, List<String> lines) {
            if (random.nextInt(3) > 0) {
                turns = new Maker(random, "pace bag drill minute crowd", false).test(1);
                if (random.nextBoolean()) {
                    Formula a = turns;
                    int late = random.nextInt(8);
                    turns = new Formula("minute>" + late + " and [" + a.text + "]", e -> e.get("minute") > late ? a.value.applyAsLong(e) : 0);
                }
                lines.add("turns " + turns.text);
            }
            if (random.nextInt(3) > 0) {
                dear = new Maker(random, "pace bag drill other long long", false).sum(2);
                lines.add("dear " + dear.text);
            }
            if (random.nextInt(3) > 0) {
                hears = random.nextInt(21);
                lines.add("hears " + hears);
            }
            if (random.nextInt(3) > 0) {
                signs = 1 + random.nextInt(9);
                lines.add("signs " + signs);
            }
            if (random.nextInt(3) > 0) {
                smoke = random.nextInt(101);
                lines.add("smoke " + smoke);
            }
        }

        int signedOf(int c, int d) {
            return signed.getOrDefault(Math.min(c, d) * 10 + Math.max(c, d), 0);
        }

        void keep() {
            past.push(new Object[] {drills, posts.clone(), shut.clone(), new HashMap<>(signed)});
        }

        @SuppressWarnings("unchecked")
        boolean undo() {
            if (past.isEmpty()) {
                return false;
            }
            Object[] then = past.pop();
            drills = (Integer) then[0];
            posts = (int[]) then[1];
            shut = (boolean[]) then[2];
            signed = (Map<Integer, Integer>) then[3];
            return true;
        }

        int hold(int n) {
            int signings = 0;
            for (int k = 0; k < n; k++) {
                signings += holdOne(-1);
            }
            return signings;
        }

        int holdBySeed(int n) {
            int smokes = 0;
            for (int k = 0; k < n; k++) {
                int stair = -1;
                if (!stairs.isEmpty() && draw(100) < smoke) {
                    stair = draw(stairs.size());
                    smokes++;
                }
                holdOne(stair);
            }
            return smokes;
        }

        private int draw(int m) {
            seed = (1103515245L * seed + 12345) % (1L << 31);
            return (int) (seed / 64 % m);
        }

        private int holdOne(int smoky) {
            Run run = new Run(this, smoky, -1);
            int signings = 0;
            for (int c = 0; c < clerks.size(); c++) {
                for (int d = c + 1; d < clerks.size(); d++) {
                    if (run.meets(c, d) >= signs) {
                        signed.merge(c * 10 + d, 1, Integer::sum);
                        signings++;
                    }
                }
            }
            drills++;
            return signings;
        }

        void see(Random random, FireDrill x) {
            if (clerks.isEmpty()) {
                return;
            }
            int stair = random.nextInt(stairs.size() + 1) - 1;
            Run run = new Run(this, stair, -1);
            int[] bytes = new int[2 * (1 + random.nextInt(3))];
            seen = new ArrayList<>();
            for (int k = 0; k < bytes.length; k += 2) {
                int c = random.nextInt(clerks.size());
                int out = random.nextInt(12) == 0 ? random.nextInt(9) : run.out[c];
                bytes[k] = c;
                bytes[k + 1] = out < 0 ? 255 : out;
                seen.add(new int[] {c, out});
            }
            Check.tape(x, bytes);
            CHECK.is("see()", x.see(), seen.size());
        }
    }

    /** One drill, as part II tells it. */
    private static final class Run {
        final Model m;
        final int[] far;
        final int[] out;
        final int[] back;
        final int[][] where;
        final List<boolean[]> lawn = new ArrayList<>();
        int empty;

        Run(Model m, int smoky, int widened) {
            this.m = m;
            int clerks = m.clerks.size();
            far = distances(smoky);
            out = new int[clerks];
            back = new int[clerks];
            where = new int[9][clerks];
            Arrays.fill(out, 99);
            Arrays.fill(back, -1);
            int[] at = m.clerks.stream().mapToInt(c -> c[0]).toArray();
            boolean[] stands = new boolean[clerks];
            boolean someInside = false;
            for (int c = 0; c < clerks; c++) {
                stands[c] = at[c] == 0;
                out[c] = stands[c] ? -1 : 99;
                someInside |= !stands[c];
            }
            empty = someInside ? 99 : -1;
            for (int minute = 0; minute < 9; minute++) {
                boolean[] before = stands.clone();
                int[] gone = new int[m.stairs.size()];
                for (int c = 0; c < clerks; c++) {
                    if (back[c] >= 0) {
                        continue;
                    }
                    if (before[c]) {
                        if (turns(c, minute, stands)) {
                            back[c] = minute;
                            stands[c] = false;
                        }
                        continue;
                    }
                    at[c] = walk(c, at[c], gone, smoky, widened);
                    if (at[c] == 0) {
                        stands[c] = true;
                        out[c] = minute;
                    }
                }
                boolean nobody = true;
                for (int c = 0; c < clerks; c++) {
                    where[minute][c] = back[c] >= 0 ? m.clerks.get(c)[0] : at[c];
                    nobody &= stands[c];
                }
                empty = empty == 99 && nobody ? minute : empty;
                lawn.add(stands.clone());
            }
        }

        private int[] distances(int smoky) {
            int[] distance = new int[m.rooms];
            Arrays.fill(distance, -1);
            Deque<Integer> open = new ArrayDeque<>();
            distance[0] = 0;
            open.add(0);
            while (!open.isEmpty()) {
                int room = open.remove();
                for (int k = 0; k < m.stairs.size(); k++) {
                    int[] s = m.stairs.get(k);
                    int to = s[0] == room ? s[1] : s[1] == room ? s[0] : -1;
                    if (!m.shut[k] && k != smoky && to >= 0 && distance[to] < 0) {
                        distance[to] = distance[room] + 1;
                        open.add(to);
                    }
                }
            }
            return distance;
        }

        private boolean turns(int c, int minute, boolean[] stands) {
            long crowd = 0;
            for (int d = 0; d < stands.length; d++) {
                crowd += d != c && stands[d] ? 1 : 0;
            }
            int[] clerk = m.clerks.get(c);
            return m.turns.value.applyAsLong(Map.of("pace", (long) clerk[2], "bag", (long) clerk[3], "drill", (long) m.drills,
                "minute", (long) minute, "crowd", crowd)) == 1;
        }

        private int walk(int c, int from, int[] gone, int smoky, int widened) {
            int room = from;
            for (int k = 0; k < m.clerks.get(c)[2] && room != 0 && far[room] > 0; k++) {
                int next = -1;
                for (int to = m.rooms - 1; to >= 0; to--) {
                    int stair = between(room, to);
                    if (far[to] == far[room] - 1 && stair >= 0 && !m.shut[stair] && stair != smoky
                        && gone[stair] < m.stairs.get(stair)[2] + (stair == widened ? 1 : 0)) {
                        next = to;
                    }
                }
                if (next < 0) {
                    return room;
                }
                gone[between(room, next)]++;
                room = next;
            }
            return room;
        }

        private int between(int a, int b) {
            for (int k = 0; k < m.stairs.size(); k++) {
                int[] s = m.stairs.get(k);
                if (s[0] == a && s[1] == b || s[0] == b && s[1] == a) {
                    return k;
                }
            }
            return -1;
        }

        long meets(int c, int d) {
            return meetsAt(c, d, m.posts);
        }

        private long meetsAt(int c, int d, int[] posts) {
            int apart = Math.abs(posts[m.clerks.get(c)[1]] - posts[m.clerks.get(d)[1]]);
            return apart > m.hears ? 0 : lawn.stream().filter(stands -> stands[c] && stands[d]).count();
        }

        int signing(int[] posts) {
            int pairs = 0;
            for (int c = 0; c < out.length; c++) {
                for (int d = c + 1; d < out.length; d++) {
                    pairs += meetsAt(c, d, posts) >= m.signs ? 1 : 0;
                }
            }
            return pairs;
        }

        long dear(int c, int d) {
            return dearTo(c, d) + dearTo(d, c);
        }

        private long dearTo(int c, int d) {
            int[] clerk = m.clerks.get(c);
            return m.dear.value.applyAsLong(Map.of("pace", (long) clerk[2], "bag", (long) clerk[3], "drill", (long) m.drills,
                "other", (long) m.clerks.get(d)[3], "long", meets(c, d)));
        }

        long worth(int[] row) {
            long sum = 0;
            for (int c = 0; c < row.length; c++) {
                sum += row[c] > c ? dear(c, row[c]) : 0;
            }
            return sum;
        }
    }
}
