import com.sun.management.ThreadMXBean;
import java.lang.management.ManagementFactory;
import java.util.Random;

/** Any calls with any numbers: none throws, the same calls answer the same, and none makes objects of its own. */
public final class AnyCallTest {
    private static final Check CHECK = new Check("AnyCallTest");
    private static final int RUNS = 400;
    private static final int CALLS = 512;
    private static final String[] TEXTS = {
        "room lawn; room hall; room attic; room vault; stair hall to lawn wide 1; stair attic to hall wide 2; stair vault to hall wide 1;"
            + " stair vault to lawn wide 1; part maps post 2; part drain post 6; clerk ann in attic of maps pace 1 bag 3;"
            + " clerk bob in hall of drain pace 2 bag 0; clerk cid in attic of drain pace 2 bag 5; clerk dot in vault of maps pace 1 bag 1;"
            + " turns bag>4 and minute>3 and crowd>2; dear long*2-bag+other; hears 3; signs 2; smoke 50;",
        "room a;", "", "x", "first all", "total meets 0/out", "least min(signed,post)", "often not out<3", "room a;room b;stair a to b wide 1;",
    };

    public static void main(String[] args) {
        for (int seed = 0; seed < RUNS; seed++) {
            run(seed);
        }
        allocations();
        CHECK.finish();
    }

    private static void run(int seed) {
        Random random = new Random(seed);
        FireDrill x = new FireDrill();
        FireDrill twin = new FireDrill();
        for (int k = 0; k < CALLS; k++) {
            int which = random.nextInt(42);
            int[] n = {number(random), number(random), number(random), number(random), number(random)};
            String text = TEXTS[random.nextInt(TEXTS.length)];
            CHECK.is("the same again, call " + which + " of run " + seed, call(twin, which, n, text), call(x, which, n, text));
        }
    }

    private static int number(Random random) {
        switch (random.nextInt(8)) {
            case 0: return random.nextInt();
            case 1: return Integer.MAX_VALUE;
            case 2: return Integer.MIN_VALUE;
            case 3: return -1;
            default: return random.nextInt(12);
        }
    }

    private static long call(FireDrill x, int which, int[] n, String text) {
        switch (which) {
            case 0: return x.feed(n[0], n[1], n[2], n[3], n[4]);
            case 1: return x.end(n[0]) ? 1 : 0;
            case 2: return x.house();
            case 3: return x.fault(n[0]);
            case 4: return x.has(n[0]);
            case 5: return x.letter(n[0], n[1], n[2]);
            case 6: return x.far(n[0]);
            case 7: return x.stair(n[0], n[1]);
            case 8: return x.section(n[0], n[1]);
            case 9: return x.clerk(n[0], n[1]);
            case 10: return x.signed(n[0], n[1]);
            case 11: return x.out(n[0]);
            case 12: return x.back(n[0]);
            case 13: return x.where(n[0], n[1]);
            case 14: return x.meets(n[0], n[1]);
            case 15: return x.empty();
            case 16: return x.signs();
            case 17: return x.posts(n[0]);
            case 18: return x.wider();
            case 19: return x.wardens();
            case 20: return x.dear(n[0], n[1]);
            case 21: return x.couples();
            case 22: return x.with(n[0]);
            case 23: return x.later(n[0]);
            case 24: return x.see();
            case 25: return x.shuts(n[0]);
            case 26: return x.whom(n[0]);
            case 27: return x.post(n[0], n[1]) ? 1 : 0;
            case 28: return x.shut(n[0], n[1]) ? 1 : 0;
            case 29: return x.drills(n[0]);
            case 30: return x.chance(n[0]);
            case 31: return x.undo() ? 1 : 0;
            case 32: return x.seed(n[0]) ? 1 : 0;
            case 33: return x.ask();
            case 34: return x.image();
            case 35: return x.octet(n[0]);
            case 36: return x.on() ? 1 : 0;
            case 37: return x.status(n[0]);
            default: return textCall(x, which, text);
        }
    }

    private static long textCall(FireDrill x, int which, String text) {
        x.end(0);
        if (which == 38) {
            int[] image = new int[x.image()];
            for (int k = 0; k < image.length; k++) {
                image[k] = x.octet(k);
            }
            Check.tape(x, image);
            return x.on() ? 1 : 0;
        }
        if (which == 39) {
            Check.tape(x, 0, 1, 1, 99);
            return x.see();
        }
        Check.tape(x, text);
        return which == 40 ? x.house() : x.ask();
    }

    /** A room is shared by all calls of a run: only the constructor may take of it. */
    private static void allocations() {
        ThreadMXBean bean = (ThreadMXBean) ManagementFactory.getThreadMXBean();
        long id = Thread.currentThread().getId();
        FireDrill x = new FireDrill();
        Check.tape(x, TEXTS[0]);
        x.house();
        int[] n = {1, 1, 1, 1, 1};
        for (int which = 0; which < 38; which++) {
            call(x, which, n, "");
        }
        Check.tape(x, TEXTS[0]);
        x.house();
        long before = bean.getThreadAllocatedBytes(id);
        long idle = bean.getThreadAllocatedBytes(id) - before;
        before = bean.getThreadAllocatedBytes(id);
        for (int round = 0; round < 20; round++) {
            for (int which = 0; which < 38; which++) {
                call(x, which, n, "");
            }
        }
        long used = bean.getThreadAllocatedBytes(id) - before;
        CHECK.is("bytes that 760 calls took beside " + idle, used <= idle + 4096, true);
        before = bean.getThreadAllocatedBytes(id);
        new FireDrill();
        CHECK.is("bytes of a new object", bean.getThreadAllocatedBytes(id) - before < 60000, true);
    }
}
