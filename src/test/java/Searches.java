import java.util.ArrayList;
import java.util.Arrays;
import java.util.Comparator;
import java.util.HashMap;
import java.util.List;
import java.util.Map;
import java.util.Random;

/** The searches of part III and the questions of part IV over the second model, by trying everything. */
final class Searches {
    private Searches() {
    }

    /** How many pairs sign, and behind it whose post each section gets. */
    static int[] posts(Model m, Model.Run run) {
        List<int[]> rows = new ArrayList<>();
        permutations(new ArrayList<>(), m.posts.length, rows);
        int[] best = {};
        int most = -1;
        for (int[] row : rows) {
            int[] posts = new int[row.length];
            for (int k = 0; k < row.length; k++) {
                posts[k] = m.posts[row[k]];
            }
            int signing = run.signing(posts);
            if (signing > most || signing == most && Arrays.compare(row, best) < 0) {
                most = signing;
                best = row;
            }
        }
        int[] all = new int[best.length + 1];
        all[0] = most;
        System.arraycopy(best, 0, all, 1, best.length);
        return all;
    }

    private static void permutations(List<Integer> row, int n, List<int[]> into) {
        if (row.size() == n) {
            into.add(row.stream().mapToInt(v -> v).toArray());
            return;
        }
        for (int k = n - 1; k >= 0; k--) {
            if (!row.contains(k)) {
                row.add(k);
                permutations(row, n, into);
                row.remove(row.size() - 1);
            }
        }
    }

    /** Who is with whom. */
    static int[] couples(Model.Run run, int clerks) {
        List<int[]> rows = new ArrayList<>();
        int[] alone = new int[clerks];
        Arrays.fill(alone, -1);
        matchings(run, alone, 0, 1, rows);
        rows.sort(Comparator.comparingLong((int[] row) -> -run.worth(row)).thenComparing(Arrays::compare));
        return rows.get(0);
    }

    /** Pair by pair, taken or left. */
    private static void matchings(Model.Run run, int[] row, int one, int other, List<int[]> into) {
        if (one >= row.length) {
            into.add(row.clone());
        } else if (other >= row.length) {
            matchings(run, row, one + 1, one + 2, into);
        } else {
            if (row[one] < 0 && row[other] < 0 && run.meets(one, other) > 0) {
                row[one] = other;
                row[other] = one;
                matchings(run, row, one, other + 1, into);
                row[one] = -1;
                row[other] = -1;
            }
            matchings(run, row, one, other + 1, into);
        }
    }

    static int wider(Model m, int without) {
        int best = -1;
        int soonest = without;
        for (int k = 0; k < m.stairs.size(); k++) {
            int empty = m.shut[k] ? 1000 : new Model.Run(m, -1, k).empty;
            if (empty < soonest) {
                soonest = empty;
                best = k;
            }
        }
        return best;
    }

    static int wardens(Model m) {
        int best = -1;
        for (int bits = 0; bits < 1 << m.rooms; bits++) {
            boolean all = true;
            for (int k = 0; k < m.stairs.size(); k++) {
                int[] s = m.stairs.get(k);
                all &= m.shut[k] || (bits & (1 << s[0] | 1 << s[1])) != 0;
            }
            if (all && (best < 0 || Integer.bitCount(bits) < Integer.bitCount(best))) {
                best = bits;
            }
        }
        return best;
    }

    /** The stairs as bits, whether none can be, whom to ask, and how many are left at the most. */
    static int[] suspects(Model m) {
        List<int[]> left = new ArrayList<>();
        int bits = 0;
        int none = 0;
        for (int k = -1; k < m.stairs.size(); k++) {
            if (k >= 0 && m.shut[k]) {
                continue;
            }
            int[] out = new Model.Run(m, k, -1).out;
            if (m.seen.stream().allMatch(row -> out[row[0]] == row[1])) {
                left.add(out);
                none = k < 0 ? 1 : none;
                bits |= k < 0 ? 0 : 1 << k;
            }
        }
        int whom = -1;
        int fewest = -1;
        for (int c = 0; c < m.clerks.size() && !left.isEmpty(); c++) {
            Map<Integer, Integer> groups = new HashMap<>();
            for (int[] out : left) {
                groups.merge(out[c], 1, Integer::sum);
            }
            int most = groups.values().stream().mapToInt(v -> v).max().orElse(0);
            if (whom < 0 || most < fewest) {
                whom = c;
                fewest = most;
            }
        }
        return new int[] {bits, none, whom, fewest};
    }

    /** A question and its answer. */
    static final class Question {
        final String text;
        final long due;

        Question(String text, long due) {
            this.text = text;
            this.due = due;
        }
    }

    static Question question(Model m, Model.Run run, Random random) {
        String[] kinds = {"first", "last", "often", "total", "most", "least"};
        int kind = random.nextInt(6);
        Model.Maker maker = new Model.Maker(random, "number pace bag post out signed drill", true);
        Model.Formula formula = kind < 3 ? maker.test(3) : maker.sum(3);
        List<Long> values = new ArrayList<>();
        for (int c = 0; c < m.clerks.size(); c++) {
            values.add(formula.value.applyAsLong(wordsOf(m, run, c)));
        }
        return new Question(kinds[kind] + " " + formula.text, answer(kind, values));
    }

    private static Map<String, Long> wordsOf(Model m, Model.Run run, int c) {
        int[] clerk = m.clerks.get(c);
        Map<String, Long> env = new HashMap<>();
        env.put("number", (long) c);
        env.put("pace", (long) clerk[2]);
        env.put("bag", (long) clerk[3]);
        env.put("post", (long) m.posts[clerk[1]]);
        env.put("out", (long) run.out[c]);
        env.put("drill", (long) m.drills);
        long signed = 0;
        for (int d = 0; d < m.clerks.size(); d++) {
            signed += d == c ? 0 : m.signedOf(c, d);
            env.put("met" + d, d == c ? 0L : run.meets(c, d));
        }
        env.put("signed", signed);
        return env;
    }

    private static long answer(int kind, List<Long> values) {
        switch (kind) {
            case 0: return values.indexOf(1L);
            case 1: return values.lastIndexOf(1L);
            case 2: case 3: return values.stream().mapToLong(v -> v).sum();
            case 4: return values.stream().mapToLong(v -> v).max().orElse(0);
            default: return values.stream().mapToLong(v -> v).min().orElse(0);
        }
    }
}
