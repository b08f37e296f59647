/** Promises 29 to 34: post, shut, drills, chance, undo, seed. */
public final class ActsTest {
    private static final Check CHECK = new Check("ActsTest");
    private static final String HOUSE = "room l;room a;room b;stair a to l wide 2;stair b to a wide 2;stair b to l wide 1;"
        + "part p post 0;part q post 9;clerk x in a of p pace 1 bag 1;clerk y in a of p pace 1 bag 2;"
        + "clerk z in b of q pace 1 bag 3;";

    public static void main(String[] args) {
        post();
        shut();
        drills();
        drillsAtTheirMost();
        chance();
        chanceByHand();
        undo();
        lastTwenty();
        seed();
        CHECK.finish();
    }

    private static FireDrill house() {
        return CHECK.house(HOUSE, 11);
    }

    private static void post() {
        FireDrill x = house();
        CHECK.is("post(0, 0): it has it", x.post(0, 0), false);
        CHECK.is("post(2, 1)", x.post(2, 1), false);
        CHECK.is("post(-1, 1)", x.post(-1, 1), false);
        CHECK.is("post(0, -1)", x.post(0, -1), false);
        CHECK.is("post(0, 21)", x.post(0, 21), false);
        CHECK.is("status(2)", x.status(2), 5);
        CHECK.is("has(8)", x.has(8), 0);
        CHECK.is("post(0, 20)", x.post(0, 20), true);
        CHECK.is("section(0, 0)", x.section(0, 0), 20);
        CHECK.is("post(0, 20) again", x.post(0, 20), false);
        CHECK.is("post(0, 0)", x.post(0, 0), true);
        CHECK.is("meets(0, 2)", x.meets(0, 2), 0);
        CHECK.is("post(1, 3)", x.post(1, 3), true);
        CHECK.is("meets(0, 2)", x.meets(0, 2), 9);
        CHECK.is("has(8)", x.has(8), 3);
        CHECK.is("status(2)", x.status(2), 6);
    }

    private static void shut() {
        FireDrill x = house();
        CHECK.is("shut(0, 0): it is so", x.shut(0, 0), false);
        CHECK.is("shut(3, 1)", x.shut(3, 1), false);
        CHECK.is("shut(-1, 1)", x.shut(-1, 1), false);
        CHECK.is("shut(0, 2)", x.shut(0, 2), false);
        CHECK.is("shut(0, -1)", x.shut(0, -1), false);
        CHECK.is("status(2)", x.status(2), 5);
        CHECK.is("shut(0, 1)", x.shut(0, 1), true);
        CHECK.is("shut(0, 1) again", x.shut(0, 1), false);
        CHECK.is("stair(0, 3)", x.stair(0, 3), 1);
        CHECK.is("has(5)", x.has(5), 1);
        CHECK.is("out(0)", x.out(0), 1);
        CHECK.is("shut(0, 0)", x.shut(0, 0), true);
        CHECK.is("out(0)", x.out(0), 0);
        CHECK.is("has(5)", x.has(5), 0);
        CHECK.is("has(8)", x.has(8), 2);
    }

    private static void drills() {
        FireDrill x = house();
        CHECK.is("drills(0)", x.drills(0), -1);
        CHECK.is("drills(-1)", x.drills(-1), -1);
        CHECK.is("drills(31)", x.drills(31), -1);
        CHECK.is("drills(Integer.MAX_VALUE)", x.drills(Integer.MAX_VALUE), -1);
        CHECK.is("status(3)", x.status(3), 4);
        CHECK.is("has(8)", x.has(8), 0);
        CHECK.is("drills(30)", x.drills(30), 30);
        CHECK.is("has(4)", x.has(4), 30);
        CHECK.is("signed(1, 0)", x.signed(1, 0), 30);
        CHECK.is("drills(1)", x.drills(1), 1);
        CHECK.is("has(8): n drills are one act", x.has(8), 2);
        x.post(1, 2);
        CHECK.is("drills(2)", x.drills(2), 6);
        CHECK.is("signed(0, 2)", x.signed(0, 2), 2);
        CHECK.is("has(6)", x.has(6), 37);
        CHECK.is("clerk(2, 4)", x.clerk(2, 4), 4);
        CHECK.is("drills(3) of a new object", new FireDrill().drills(3), 0);
    }

    private static void drillsAtTheirMost() {
        FireDrill x = house();
        for (int k = 0; k < 33; k++) {
            x.drills(30);
        }
        CHECK.is("has(4)", x.has(4), 990);
        CHECK.is("later(10) beyond 999", x.later(10), -1);
        CHECK.is("later(9)", x.later(9), 999);
        CHECK.is("drills(10) beyond 999", x.drills(10), -1);
        CHECK.is("chance(10) beyond 999", x.chance(10), -1);
        CHECK.is("status(3)", x.status(3), 2);
        CHECK.is("has(4)", x.has(4), 990);
        CHECK.is("chance(4)", x.chance(4), 0);
        CHECK.is("drills(5)", x.drills(5), 5);
        CHECK.is("has(4)", x.has(4), 999);
        CHECK.is("drills(1)", x.drills(1), -1);
        CHECK.is("chance(1)", x.chance(1), -1);
        CHECK.is("later(1)", x.later(1), -1);
        CHECK.is("later(0)", x.later(0), 999);
        CHECK.is("status(3)", x.status(3), 4);

        // Signed 9998 times: once more counts, then it stays; that they signed is still told.
        FireDrill y = CHECK.house("room l;part p post 0;clerk x in l of p pace 1 bag 0;clerk y in l of p pace 1 bag 0;", 4);
        Check.tape(y, Texts.image(0, 0, 0, 39, 14));
        CHECK.is("on()", y.on(), true);
        CHECK.is("signed(0, 1)", y.signed(0, 1), 9998);
        CHECK.is("later(5)", y.later(5), 9999);
        CHECK.is("drills(3)", y.drills(3), 3);
        CHECK.is("signed(0, 1)", y.signed(0, 1), 9999);
        CHECK.is("clerk(0, 4)", y.clerk(0, 4), 9999);
        CHECK.is("has(6)", y.has(6), 9999);
    }

    /** The seed's own rule, told again in whole numbers of any size. */
    private static final class Draws {
        private java.math.BigInteger x;

        Draws(int seed) {
            x = java.math.BigInteger.valueOf(seed);
        }

        int draw(int m) {
            x = x.multiply(java.math.BigInteger.valueOf(1103515245)).add(java.math.BigInteger.valueOf(12345))
                .mod(java.math.BigInteger.ONE.shiftLeft(31));
            return x.divide(java.math.BigInteger.valueOf(64)).mod(java.math.BigInteger.valueOf(m)).intValueExact();
        }
    }

    private static void chance() {
        FireDrill x = CHECK.house(HOUSE + "smoke 100;", 12);
        CHECK.is("chance(0)", x.chance(0), -1);
        CHECK.is("chance(-1)", x.chance(-1), -1);
        CHECK.is("chance(31)", x.chance(31), -1);
        CHECK.is("status(3)", x.status(3), 3);
        CHECK.is("chance(30)", x.chance(30), 30);
        CHECK.is("has(4)", x.has(4), 30);
        CHECK.is("has(5): shut in it alone", x.has(5), 0);
        CHECK.is("has(8): one act", x.has(8), 1);
        CHECK.is("smoke 0", CHECK.house(HOUSE, 11).chance(30), 0);
        CHECK.is("one stair", CHECK.house("room a;room b;stair a to b wide 1;smoke 100;", 4).chance(5), 5);
        CHECK.is("no stairs, no smoke", CHECK.house("room a;smoke 100;", 2).chance(30), 0);
    }

    /** Each drill on its own: what the seed tells must be what a stair shut by hand does. */
    private static void chanceByHand() {
        int[] seeds = {1, 0, 7, 12345, Integer.MAX_VALUE};
        for (int seed : seeds) {
            FireDrill x = CHECK.house(HOUSE + "smoke 60;signs 8;hears 9;", 14);
            FireDrill hand = CHECK.house(HOUSE + "smoke 60;signs 8;hears 9;", 14);
            if (seed != 1) {
                CHECK.is("seed(" + seed + ")", x.seed(seed), true);
            }
            Draws draws = new Draws(seed);
            for (int n = 1; n <= 5; n++) {
                int smokes = 0;
                for (int k = 0; k < n; k++) {
                    int stair = draws.draw(100) < 60 ? draws.draw(3) : -1;
                    smokes += stair >= 0 ? 1 : 0;
                    boolean done = stair >= 0 && hand.shut(stair, 1);
                    hand.drills(1);
                    if (done) {
                        hand.shut(stair, 0);
                    }
                }
                CHECK.is("chance(" + n + ") of seed " + seed, x.chance(n), smokes);
                for (int one = 0; one < 3; one++) {
                    for (int other = 0; other < one; other++) {
                        CHECK.is("signed by chance", x.signed(one, other), hand.signed(one, other));
                    }
                }
            }
            CHECK.is("has(8)", x.has(8), 5);
        }
        // No draw where there are no stairs: the seed is as it was.
        FireDrill bare = CHECK.house("room a;smoke 100;", 2);
        bare.chance(30);
        Check.tape(bare, HOUSE + "smoke 50;");
        bare.house();
        FireDrill fresh = CHECK.house(HOUSE + "smoke 50;", 12);
        for (int k = 0; k < 10; k++) {
            CHECK.is("chance(3)", bare.chance(3), fresh.chance(3));
        }
    }

    private static void undo() {
        FireDrill x = house();
        CHECK.is("undo() of none", x.undo(), false);
        CHECK.is("status(4)", x.status(4), 1);
        x.post(0, 5);
        x.shut(1, 1);
        x.drills(4);
        x.chance(2);
        x.post(0, 6);
        CHECK.is("has(8)", x.has(8), 5);
        CHECK.is("undo() of post", x.undo(), true);
        CHECK.is("section(0, 0)", x.section(0, 0), 5);
        CHECK.is("has(4)", x.has(4), 6);
        CHECK.is("undo() of chance", x.undo(), true);
        CHECK.is("has(4)", x.has(4), 4);
        CHECK.is("has(6)", x.has(6), 4);
        CHECK.is("undo() of drills", x.undo(), true);
        CHECK.is("has(4)", x.has(4), 0);
        CHECK.is("has(6)", x.has(6), 0);
        CHECK.is("has(5)", x.has(5), 1);
        CHECK.is("undo() of shut", x.undo(), true);
        CHECK.is("has(5)", x.has(5), 0);
        CHECK.is("section(0, 0)", x.section(0, 0), 5);
        CHECK.is("undo() of post", x.undo(), true);
        CHECK.is("section(0, 0)", x.section(0, 0), 0);
        CHECK.is("undo() of none", x.undo(), false);
        CHECK.is("status(4)", x.status(4), 2);
        x.post(0, 9);
        x.undo();
        CHECK.is("undo() cannot be undone", x.has(8), 0);
        CHECK.is("refused acts cannot be undone", x.post(0, 0), false);
        CHECK.is("undo()", x.undo(), false);
    }

    private static void lastTwenty() {
        FireDrill x = house();
        for (int k = 1; k <= 20; k++) {
            x.post(0, k);
        }
        CHECK.is("has(8)", x.has(8), 20);
        x.drills(1);
        x.post(0, 0);
        x.post(0, 1);
        CHECK.is("has(8)", x.has(8), 20);
        CHECK.is("undo()", x.undo(), true);
        CHECK.is("section(0, 0)", x.section(0, 0), 0);
        CHECK.is("undo()", x.undo(), true);
        CHECK.is("section(0, 0)", x.section(0, 0), 20);
        CHECK.is("undo()", x.undo(), true);
        CHECK.is("has(4)", x.has(4), 0);
        for (int k = 19; k >= 3; k--) {
            CHECK.is("undo()", x.undo(), true);
            CHECK.is("section(0, 0)", x.section(0, 0), k);
        }
        CHECK.is("undo() of the 21st", x.undo(), false);
        CHECK.is("section(0, 0)", x.section(0, 0), 3);
        CHECK.is("has(8)", x.has(8), 0);
        x.post(0, 7);
        CHECK.is("has(8)", x.has(8), 1);
        CHECK.is("undo()", x.undo(), true);
        CHECK.is("section(0, 0)", x.section(0, 0), 3);
    }

    private static void seed() {
        FireDrill x = CHECK.house(HOUSE + "smoke 50;", 12);
        CHECK.is("seed(-1)", x.seed(-1), false);
        CHECK.is("seed(Integer.MIN_VALUE)", x.seed(Integer.MIN_VALUE), false);
        CHECK.is("status(5)", x.status(5), 2);
        FireDrill y = CHECK.house(HOUSE + "smoke 50;", 12);
        CHECK.is("seed(1): as at first", y.seed(1), true);
        for (int k = 0; k < 8; k++) {
            CHECK.is("chance(4)", x.chance(4), y.chance(4));
        }
        CHECK.is("has(8): seed() is no act", y.has(8), 8);
        // Undoing leaves the seed where it is.
        FireDrill a = CHECK.house(HOUSE + "smoke 50;", 12);
        FireDrill b = CHECK.house(HOUSE + "smoke 50;", 12);
        a.chance(7);
        a.undo();
        b.chance(7);
        for (int k = 0; k < 20; k++) {
            CHECK.is("chance(1) behind undo()", a.chance(1), b.chance(1));
        }
    }
}
