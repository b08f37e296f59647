import java.util.Random;

/**
 * Houses and calls by fixed seeds, each answer held against a second model, which searches by trying everything.
 */
public final class OracleTest {
    private static final Check CHECK = new Check("OracleTest");
    private static final int HOUSES = 700;
    private static final int ACTS = 12;

    public static void main(String[] args) {
        FireDrill x = new FireDrill();
        long drawn = 1;
        for (int seed = 1; seed <= HOUSES; seed++) {
            Random random = new Random(seed);
            Model model = new Model(random);
            // Mostly one object for several houses: nothing of the one may show in the next.
            if (seed % 5 == 0) {
                x = new FireDrill();
                drawn = 1;
            }
            model.seed = drawn;
            Check.tape(x, model.text);
            CHECK.is("house() " + model.text, x.house(), model.statements);
            compare(model, x, random, "seed " + seed + " at first: ");
            for (int k = 0; k < ACTS; k++) {
                String act = act(model, x, random);
                compare(model, x, random, "seed " + seed + " act " + k + " " + act + ": ");
            }
            drawn = model.seed;
        }
        CHECK.finish();
    }

    private static String act(Model m, FireDrill x, Random random) {
        int n = 1 + random.nextInt(4);
        switch (random.nextInt(8)) {
            case 0: {
                int section = random.nextInt(6);
                int post = random.nextInt(21);
                boolean may = section < m.posts.length && m.posts[section] != post;
                if (may) {
                    m.keep();
                    m.posts[section] = post;
                }
                CHECK.is("post", x.post(section, post), may);
                return "post";
            }
            case 1: {
                int stair = random.nextInt(Math.max(1, m.stairs.size() + 1));
                int on = random.nextInt(2);
                boolean may = stair < m.stairs.size() && m.shut[stair] != (on == 1);
                if (may) {
                    m.keep();
                    m.shut[stair] = on == 1;
                }
                CHECK.is("shut", x.shut(stair, on), may);
                return "shut";
            }
            case 2:
                m.keep();
                CHECK.is("drills", x.drills(n), m.hold(n));
                return "drills";
            case 3:
                m.keep();
                CHECK.is("chance", x.chance(n), m.holdBySeed(n));
                return "chance";
            case 4:
                CHECK.is("undo", x.undo(), m.undo());
                return "undo";
            case 5: {
                int seed = random.nextInt(1 << 30) * 2 + random.nextInt(2);
                CHECK.is("seed", x.seed(seed), seed >= 0);
                m.seed = seed >= 0 ? seed : m.seed;
                return "seed";
            }
            case 6: {
                // A house with a fault at its end leaves all as it was.
                String other = new Model(random).text;
                Check.tape(x, other.substring(0, other.length() - 1));
                CHECK.is("house() with a fault", x.house(), -1);
                CHECK.is("fault(1)", x.fault(1), other.length() - 1);
                return "fault";
            }
            default:
                m.see(random, x, CHECK);
                return "see";
        }
    }

    private static void compare(Model m, FireDrill x, Random random, String head) {
        Model.Run run = new Model.Run(m, -1, -1);
        int clerks = m.clerks.size();
        CHECK.is(head + "has(4)", x.has(4), m.drills);
        CHECK.is(head + "has(6)", x.has(6), m.signedInAll());
        CHECK.is(head + "has(7)", x.has(7), m.seen.size());
        CHECK.is(head + "has(8)", x.has(8), m.past.size());
        for (int room = 0; room < m.rooms; room++) {
            CHECK.is(head + "far(" + room + ")", x.far(room), run.far[room]);
        }
        for (int c = 0; c < clerks; c++) {
            CHECK.is(head + "out(" + c + ")", x.out(c), run.out[c]);
            CHECK.is(head + "back(" + c + ")", x.back(c), run.back[c]);
            for (int minute = 0; minute < 9; minute++) {
                CHECK.is(head + "where(" + c + ", " + minute + ")", x.where(c, minute), run.where[minute][c]);
            }
            for (int d = 0; d < clerks; d++) {
                if (c != d) {
                    CHECK.is(head + "meets(" + c + ", " + d + ")", x.meets(c, d), run.meets(c, d));
                    CHECK.is(head + "dear(" + c + ", " + d + ")", x.dear(c, d), run.dear(c, d));
                    CHECK.is(head + "signed(" + c + ", " + d + ")", x.signed(c, d), m.signedOf(c, d));
                }
            }
        }
        CHECK.is(head + "empty()", x.empty(), run.empty);
        CHECK.is(head + "signs()", x.signs(), run.signing(m.posts));
        comparePosts(m, x, run, head);
        compareCouples(x, run, clerks, head);
        CHECK.is(head + "wider()", x.wider(), Searches.wider(m, run.empty));
        CHECK.is(head + "wardens()", x.wardens(), Searches.wardens(m));
        int n = random.nextInt(6);
        CHECK.is(head + "later(" + n + ")", x.later(n), m.later(n));
        compareSuspects(m, x, head);
        compareQuestion(m, x, run, random, head);
    }

    private static void comparePosts(Model m, FireDrill x, Model.Run run, String head) {
        int[] due = Searches.posts(m, run);
        for (int section = -1; section < m.posts.length; section++) {
            CHECK.is(head + "posts(" + section + ")", x.posts(section), due[section + 1]);
        }
    }

    private static void compareCouples(FireDrill x, Model.Run run, int clerks, String head) {
        int[] row = Searches.couples(run, clerks);
        CHECK.is(head + "couples()", x.couples(), run.worth(row));
        for (int c = 0; c < clerks; c++) {
            CHECK.is(head + "with(" + c + ")", x.with(c), row[c]);
        }
    }

    private static void compareSuspects(Model m, FireDrill x, String head) {
        int[] due = Searches.suspects(m);
        for (int what = 0; what < 2; what++) {
            CHECK.is(head + "shuts(" + what + ")", x.shuts(what), due[what]);
            CHECK.is(head + "whom(" + what + ")", x.whom(what), due[2 + what]);
        }
    }

    private static void compareQuestion(Model m, FireDrill x, Model.Run run, Random random, String head) {
        Searches.Question question = Searches.question(m, run, random);
        Check.tape(x, question.text);
        CHECK.is(head + question.text, x.ask(), question.due);
        CHECK.is(head + question.text + " fault", x.fault(0), 0);
    }
}
