import java.util.ArrayList;
import java.util.Arrays;
import java.util.HashMap;
import java.util.List;
import java.util.Random;

/**
 * Runs by fixed seeds of at most 512 calls on an object, most of their numbers at a bound or just beyond it: each answer
 * is held against the second model, and so is what was refused.
 */
public final class EdgeRunsTest {
    private static final Check CHECK = new Check("EdgeRunsTest");
    private static final int RUNS = 600;
    private static final int CALLS = 512;
    private static final int[] COUNTS = {0, 1, 255, 256, 511, 968, 969, 970, 998, 999, 1000, 9969, 9970, 9998, 9999, 10000, 65535};

    private final Random random;
    private final FireDrill x = new FireDrill();
    private final int[] refused = new int[6];
    private Model m;
    private Model.Run run;
    private String head = "";
    private int calls;
    private int tape;
    private int[] image = {};
    private int fault;
    private int place = -1;

    private EdgeRunsTest(int seed) {
        random = new Random(seed);
        head = "run " + seed + " ";
    }

    public static void main(String[] args) {
        int[] most = new int[4];
        for (int seed = 1; seed <= RUNS; seed++) {
            EdgeRunsTest one = new EdgeRunsTest(seed);
            one.takeHouse();
            while (one.calls < CALLS - 100) {
                one.step();
                most[0] = Math.max(most[0], one.calls);
                most[1] = Math.max(most[1], one.m.drills);
                most[2] += one.m.past.size() == 20 ? 1 : 0;
                most[3] = Math.max(most[3], one.m.signed.values().stream().mapToInt(v -> v).max().orElse(0));
            }
        }
        System.out.println("at the most: calls " + most[0] + ", drills " + most[1] + ", signed " + most[3] + "; twenty acts " + most[2] + " times");
        CHECK.is("calls on an object", most[0] <= CALLS, true);
        CHECK.is("drills came to 999", most[1], 999);
        CHECK.is("acts came to 20 often", most[2] > 1000, true);
        CHECK.is("signed came to 9999", most[3], 9999);
        CHECK.finish();
    }

    private void is(String call, long got, long due) {
        calls++;
        CHECK.is(head + call, got, due);
    }

    private void is(String call, boolean got, boolean due) {
        is(call, got ? 1 : 0, due ? 1 : 0);
    }

    /** Mostly one of the two bounds, or just beyond them. */
    private int near(int least, int most) {
        switch (random.nextInt(12)) {
            case 0: return least - 1;
            case 1: return most + 1;
            case 2: case 3: return least;
            case 4: case 5: return most;
            case 6: return random.nextBoolean() ? Integer.MIN_VALUE : Integer.MAX_VALUE;
            default: return least + random.nextInt(Math.max(1, most - least + 1));
        }
    }

    private static boolean within(int n, int least, int most) {
        return n >= least && n <= most;
    }

    private void put(int... bytes) {
        if (tape > 0) {
            is("end(0)", x.end(0), true);
        }
        Check.tape(x, bytes);
        calls += (bytes.length + 19) / 20 + 1;
        tape = 0;
    }

    private void put(String text) {
        put(text.chars().toArray());
    }

    private void step() {
        int kind = random.nextInt(40);
        run = new Model.Run(m, -1, -1);
        if (kind < 14) {
            act(kind);
        } else if (kind < 16) {
            feedOrEnd();
        } else if (kind == 16 && random.nextInt(8) == 0) {
            takeHouse();
        } else if (kind == 17 || kind == 18) {
            see();
        } else if (kind == 19 && random.nextInt(3) == 0) {
            on();
        } else if (kind == 20) {
            writeImage();
        } else if (kind == 21) {
            ask();
        } else if (kind < 29) {
            tell(kind);
        } else {
            tellOfThisDrill(kind);
        }
        if (random.nextInt(3) == 0) {
            int what = near(0, 5);
            is("status(" + what + ")", x.status(what), within(what, 0, 5) ? refused[what] : -1);
        }
    }

    private void act(int kind) {
        if (kind < 3) {
            int section = near(0, m.posts.length - 1);
            int post = near(0, 20);
            boolean may = within(section, 0, m.posts.length - 1) && within(post, 0, 20) && m.posts[section] != post;
            if (may) {
                m.keep();
                m.posts[section] = post;
            }
            refused[2] += may ? 0 : 1;
            is("post(" + section + ", " + post + ")", x.post(section, post), may);
        } else if (kind < 6) {
            int stair = near(0, m.stairs.size() - 1);
            int on = near(0, 1);
            boolean may = within(stair, 0, m.stairs.size() - 1) && within(on, 0, 1) && m.shut[stair] != (on == 1);
            if (may) {
                m.keep();
                m.shut[stair] = on == 1;
            }
            refused[2] += may ? 0 : 1;
            is("shut(" + stair + ", " + on + ")", x.shut(stair, on), may);
        } else if (kind < 10) {
            hold(kind < 8);
        } else if (kind < 12) {
            boolean may = m.undo();
            refused[4] += may ? 0 : 1;
            is("undo()", x.undo(), may);
        } else {
            int seed = near(0, Integer.MAX_VALUE - 1);
            refused[5] += seed < 0 ? 1 : 0;
            m.seed = seed < 0 ? m.seed : seed;
            is("seed(" + seed + ")", x.seed(seed), seed >= 0);
        }
    }

    private void hold(boolean bySeed) {
        int n = near(1, random.nextBoolean() ? 30 : Math.max(1, Math.min(30, 999 - m.drills)));
        boolean may = within(n, 1, 30) && m.drills + n <= 999;
        refused[3] += may ? 0 : 1;
        if (may) {
            m.keep();
        }
        if (bySeed) {
            int due = may ? m.holdBySeed(n) : -1;
            is("chance(" + n + ")", x.chance(n), due);
        } else {
            int due = may ? m.hold(n) : -1;
            is("drills(" + n + ")", x.drills(n), due);
        }
    }

    private void feedOrEnd() {
        if (random.nextBoolean()) {
            boolean may = tape + 20 <= 1600;
            tape += may ? 20 : 0;
            refused[0] += may ? 0 : 1;
            is("feed", x.feed(random.nextInt(), 0, -1, 7, 0x72726f6d), may ? tape : -1);
        } else {
            int n = near(0, tape);
            boolean may = within(n, 0, tape);
            tape = may ? n : tape;
            refused[0] += may ? 0 : 1;
            is("end(" + n + ")", x.end(n), may);
        }
    }

    private void takeHouse() {
        Model next = new Model(random);
        boolean right = m == null || random.nextInt(3) > 0;
        String text = right ? next.text : next.text.substring(0, next.text.length() - 1);
        put(text);
        is("house()", x.house(), right ? next.statements : -1);
        fault = right ? 0 : 1;
        place = right ? -1 : text.length();
        if (right) {
            next.seed = m == null ? 1 : m.seed;
            m = next;
        } else {
            refused[1]++;
        }
    }

    private void see() {
        int rows = random.nextInt(4) == 0 ? near(1, 16) : 1 + random.nextInt(2);
        rows = within(rows, 0, 17) ? rows : 0;
        int[] bytes = new int[2 * rows + (random.nextInt(12) == 0 ? 1 : 0)];
        Model.Run then = new Model.Run(m, m.stairs.isEmpty() ? -1 : random.nextInt(m.stairs.size()), -1);
        boolean right = bytes.length == 2 * rows && rows >= 1 && rows <= 16;
        List<int[]> seen = new ArrayList<>();
        for (int k = 0; k < rows; k++) {
            int clerk = random.nextInt(9 * rows) == 0 ? near(0, m.clerks.size() - 1) & 255 : random.nextInt(Math.max(1, m.clerks.size()));
            boolean known = clerk < m.clerks.size();
            int out = known && random.nextInt(4 * rows) > 0 ? then.out[clerk] & 255 : new int[] {0, 8, 9, 98, 99, 100, 254, 255}[random.nextInt(8)];
            bytes[2 * k] = clerk;
            bytes[2 * k + 1] = out;
            right &= known && (out <= 8 || out == 99 || out == 255);
            seen.add(new int[] {clerk, out == 255 ? -1 : out});
        }
        put(bytes);
        if (right) {
            m.seen = seen;
        }
        refused[1] += right ? 0 : 1;
        is("see() of " + Arrays.toString(bytes), x.see(), right ? rows : -1);
    }

    /** What the model's image is, bytes as far as pairs. */
    private int[] bytesOf(int drills, int[] posts, int[] shut, List<Integer> signed) {
        List<Integer> bytes = new ArrayList<>(List.of(drills >> 8, drills & 255));
        Arrays.stream(posts).forEach(bytes::add);
        Arrays.stream(shut).forEach(bytes::add);
        for (int n : signed) {
            bytes.add(n >> 8);
            bytes.add(n & 255);
        }
        return Texts.image(bytes.stream().mapToInt(b -> b).toArray());
    }

    private void writeImage() {
        int[] shut = new int[m.shut.length];
        for (int k = 0; k < shut.length; k++) {
            shut[k] = m.shut[k] ? 1 : 0;
        }
        List<Integer> signed = new ArrayList<>();
        for (int one = 0; one < m.clerks.size(); one++) {
            for (int other = one + 1; other < m.clerks.size(); other++) {
                signed.add(m.signedOf(one, other));
            }
        }
        image = bytesOf(m.drills, m.posts, shut, signed);
        is("image()", x.image(), image.length);
    }

    private int count(int most) {
        int n = COUNTS[random.nextInt(COUNTS.length)];
        return n <= most || random.nextInt(60) == 0 ? n : most - random.nextInt(3);
    }

    private void on() {
        int drills = count(999);
        int[] posts = new int[m.posts.length];
        int[] shut = new int[m.shut.length];
        boolean right = drills <= 999;
        for (int k = 0; k < posts.length; k++) {
            posts[k] = random.nextInt(30) == 0 ? 21 : random.nextInt(3) * 10;
            right &= posts[k] <= 20;
        }
        for (int k = 0; k < shut.length; k++) {
            shut[k] = random.nextInt(50) == 0 ? 2 : random.nextInt(4) / 3;
            right &= shut[k] <= 1;
        }
        HashMap<Integer, Integer> pairs = new HashMap<>();
        List<Integer> signed = new ArrayList<>();
        for (int one = 0; one < m.clerks.size(); one++) {
            for (int other = one + 1; other < m.clerks.size(); other++) {
                int n = count(9999);
                right &= n <= 9999;
                pairs.put(one * 10 + other, n);
                signed.add(n);
            }
        }
        int[] bytes = bytesOf(drills, posts, shut, signed);
        if (random.nextInt(8) == 0) {
            right = false;
            bytes = spoilt(bytes);
        }
        put(bytes);
        if (right) {
            m.drills = drills;
            m.posts = posts;
            for (int k = 0; k < shut.length; k++) {
                m.shut[k] = shut[k] == 1;
            }
            m.signed = pairs;
            m.past.clear();
        }
        refused[5] += right ? 0 : 1;
        is("on() of " + Arrays.toString(bytes), x.on(), right);
    }

    private int[] spoilt(int[] bytes) {
        if (random.nextBoolean()) {
            return Arrays.copyOf(bytes, bytes.length + (random.nextBoolean() ? 1 : -1));
        }
        int[] other = bytes.clone();
        other[other.length - 1] = (other[other.length - 1] + 1) % 256;
        return other;
    }

    private void ask() {
        Searches.Question question = Searches.question(m, run, random);
        boolean right = random.nextInt(4) > 0;
        put(question.text + (right ? "" : " ;"));
        is("ask() of " + question.text, x.ask(), right ? question.due : FireDrill.NOTHING);
        fault = right ? 0 : 1;
        place = right ? -1 : question.text.length() + 1;
    }

    private void tell(int kind) {
        if (kind == 22) {
            int what = near(0, 1);
            is("fault(" + what + ")", x.fault(what), what == 0 ? fault : what == 1 ? place : -1);
        } else if (kind == 23) {
            int shut = 0;
            for (boolean s : m.shut) {
                shut += s ? 1 : 0;
            }
            int[] due = {m.rooms, m.stairs.size(), m.posts.length, m.clerks.size(), m.drills, shut, m.signedInAll(), m.seen.size(), m.past.size()};
            int what = near(0, 8);
            is("has(" + what + ")", x.has(what), within(what, 0, 8) ? due[what] : -1);
        } else if (kind == 24) {
            int room = near(0, m.rooms - 1);
            is("far(" + room + ")", x.far(room), within(room, 0, m.rooms - 1) ? run.far[room] : -1);
        } else if (kind == 25) {
            int stair = near(0, m.stairs.size() - 1);
            int what = near(0, 3);
            boolean there = within(stair, 0, m.stairs.size() - 1) && within(what, 0, 3);
            int due = !there ? -1 : what < 3 ? m.stairs.get(stair)[what] : m.shut[stair] ? 1 : 0;
            is("stair(" + stair + ", " + what + ")", x.stair(stair, what), due);
        } else if (kind == 26) {
            int section = near(0, m.posts.length - 1);
            is("section(" + section + ", 0)", x.section(section, 0), within(section, 0, m.posts.length - 1) ? m.posts[section] : -1);
        } else if (kind == 27) {
            int one = near(0, m.clerks.size() - 1);
            int other = near(0, m.clerks.size() - 1);
            is("signed(" + one + ", " + other + ")", x.signed(one, other), areTwo(one, other) ? m.signedOf(one, other) : -1);
        } else {
            int k = near(0, image.length - 1);
            is("octet(" + k + ")", x.octet(k), within(k, 0, image.length - 1) ? image[k] : -1);
        }
    }

    private boolean isClerk(int n) {
        return within(n, 0, m.clerks.size() - 1);
    }

    private boolean areTwo(int one, int other) {
        return isClerk(one) && isClerk(other) && one != other;
    }

    private void tellOfThisDrill(int kind) {
        int one = near(0, m.clerks.size() - 1);
        int other = near(0, m.clerks.size() - 1);
        int what = near(0, 1);
        switch (kind) {
            case 29: is("out(" + one + ")", x.out(one), isClerk(one) ? run.out[one] : -2); break;
            case 30: is("back(" + one + ")", x.back(one), isClerk(one) ? run.back[one] : -1); break;
            case 31: {
                int minute = near(0, 8);
                is("where", x.where(one, minute), isClerk(one) && within(minute, 0, 8) ? run.where[minute][one] : -1);
                break;
            }
            case 32: is("meets", x.meets(one, other), areTwo(one, other) ? run.meets(one, other) : -1); break;
            case 33: is("dear", x.dear(one, other), areTwo(one, other) ? run.dear(one, other) : FireDrill.NOTHING); break;
            case 34: {
                is("empty()", x.empty(), run.empty);
                is("signs()", x.signs(), run.signing(m.posts));
                is("wider()", x.wider(), Searches.wider(m, run.empty));
                is("wardens()", x.wardens(), Searches.wardens(m));
                break;
            }
            case 35: {
                int section = near(-1, m.posts.length - 1);
                boolean there = within(section, -1, m.posts.length - 1);
                is("posts(" + section + ")", x.posts(section), there ? Searches.posts(m, run)[section + 1] : -1);
                break;
            }
            case 36: {
                int[] row = Searches.couples(run, m.clerks.size());
                is("couples()", x.couples(), run.worth(row));
                is("with(" + one + ")", x.with(one), isClerk(one) ? row[one] : -1);
                break;
            }
            case 37: {
                int n = near(0, random.nextBoolean() ? 30 : Math.min(30, 999 - m.drills));
                is("later(" + n + ")", x.later(n), within(n, 0, 30) && m.drills + n <= 999 ? m.later(n) : -1);
                break;
            }
            case 38: is("shuts(" + what + ")", x.shuts(what), within(what, 0, 1) ? Searches.suspects(m)[what] : -1); break;
            default: is("whom(" + what + ")", x.whom(what), within(what, 0, 1) ? Searches.suspects(m)[2 + what] : -1);
        }
    }
}
