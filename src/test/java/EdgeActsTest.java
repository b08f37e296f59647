/** Promises 29 to 34, bound by bound: post, shut, drills, chance, undo, seed. */
public final class EdgeActsTest {
    private static final Check CHECK = new Check("EdgeActsTest");
    private static final int LEAST = Integer.MIN_VALUE;
    private static final int MOST = Integer.MAX_VALUE;

    public static void main(String[] args) {
        postFromZeroToTwenty();
        postThatItHas();
        postOfNoneSuch();
        shutAndNoMore();
        shutThatIsSoAlready();
        shutOfNoneSuchOrForOthers();
        drillsFromOneToThirty();
        drillsThatCannotBe();
        drillsTo999();
        drillsSigned9999AtMost();
        chanceFromOneToThirty();
        chanceByStairsAsWideAsTold();
        chanceThatCannotBe();
        chanceTo999();
        smokeBelowItsNumber();
        smokeDrawsAlsoWhereThereIsNone();
        noDrawWithoutStairs();
        smokeShutsTheOneDrawn();
        smokeOnAStairThatIsShut();
        undoEachAct();
        undoOfNone();
        undoTheLastTwenty();
        undoRoundAndRound();
        undoLeavesTheSeed();
        seedFromZeroOn();
        seedBelowZero();
        seedIsOneAtFirst();
        seedIsNoAct();
        CHECK.finish();
    }

    // 29: "A SECTION gets a POST (0 .. 20): true; false, refused (2), when it has it, or there are none such."

    private static void postFromZeroToTwenty() {
        FireDrill x = CHECK.made(Texts.parts(7, 7, 7, 7, 7));
        for (int post = 0; post <= 20; post++) {
            int section = post % 5;
            boolean has = x.section(section, 0) == post;
            CHECK.is("post(" + section + ", " + post + ")", x.post(section, post), !has);
            CHECK.is("section(" + section + ", 0)", x.section(section, 0), post);
        }
        CHECK.is("status(2)", x.status(2), 0);
        FireDrill y = CHECK.made(Texts.parts(7, 8));
        CHECK.is("post(1, 0)", y.post(1, 0), true);
        CHECK.is("section(0, 0): the other stays", y.section(0, 0), 7);
        CHECK.is("has(8)", y.has(8), 1);
    }

    private static void postThatItHas() {
        CHECK.refused("post(0, 0): it has it", Texts::used, 2, x -> x.post(0, 0) ? 1 : 0, 0);
        CHECK.refused("post(1, 3): it has it now", Texts::used, 2, x -> x.post(1, 3) ? 1 : 0, 0);
        FireDrill x = Texts.used();
        CHECK.is("post(1, 2): it had it at first", x.post(1, 2), true);
        FireDrill y = CHECK.made(Texts.parts(0, 20));
        CHECK.is("post(0, 20): another one has it", y.post(0, 20), true);
        CHECK.is("post(0, 20) again", y.post(0, 20), false);
        CHECK.is("post(1, 20)", y.post(1, 20), false);
    }

    private static void postOfNoneSuch() {
        int[] posts = {-1, 21, 22, 255, LEAST, MOST};
        for (int post : posts) {
            CHECK.refused("post(0, " + post + ")", Texts::used, 2, x -> x.post(0, post) ? 1 : 0, 0);
        }
        int[] sections = {-1, 2, 5, LEAST, MOST};
        for (int section : sections) {
            CHECK.refused("post(" + section + ", 5)", Texts::used, 2, x -> x.post(section, 5) ? 1 : 0, 0);
        }
        CHECK.is("post(5, 1) of five", CHECK.made(Texts.parts(0, 0, 0, 0, 0)).post(5, 1), false);
        CHECK.is("post(4, 1) of five", CHECK.made(Texts.parts(0, 0, 0, 0, 0)).post(4, 1), true);
    }

    // 30: "A STAIR is SHUT (on 1), or no more (0): true; false, refused (2), when it is so already, there is none such, or for others."

    private static void shutAndNoMore() {
        FireDrill x = CHECK.made(Texts.rooms(8) + Texts.stairs(10));
        for (int stair = 0; stair < 10; stair++) {
            CHECK.is("shut(" + stair + ", 1)", x.shut(stair, 1), true);
            CHECK.is("stair(" + stair + ", 3)", x.stair(stair, 3), 1);
            CHECK.is("has(5)", x.has(5), stair + 1);
        }
        for (int stair = 0; stair < 10; stair++) {
            CHECK.is("shut(" + stair + ", 0)", x.shut(stair, 0), true);
            CHECK.is("stair(" + stair + ", 3)", x.stair(stair, 3), 0);
            CHECK.is("has(5)", x.has(5), 9 - stair);
        }
        CHECK.is("has(8)", x.has(8), 20);
        CHECK.is("status(2)", x.status(2), 0);
    }

    private static void shutThatIsSoAlready() {
        CHECK.refused("shut(0, 0): it is not", Texts::used, 2, x -> x.shut(0, 0) ? 1 : 0, 0);
        CHECK.refused("shut(2, 1): it is", Texts::used, 2, x -> x.shut(2, 1) ? 1 : 0, 0);
        FireDrill x = Texts.used();
        CHECK.is("shut(2, 0)", x.shut(2, 0), true);
        CHECK.is("shut(2, 0) again", x.shut(2, 0), false);
        CHECK.is("shut(2, 1)", x.shut(2, 1), true);
    }

    private static void shutOfNoneSuchOrForOthers() {
        int[] stairs = {-1, 3, 10, LEAST, MOST};
        for (int stair : stairs) {
            CHECK.refused("shut(" + stair + ", 1)", Texts::used, 2, x -> x.shut(stair, 1) ? 1 : 0, 0);
            CHECK.refused("shut(" + stair + ", 0)", Texts::used, 2, x -> x.shut(stair, 0) ? 1 : 0, 0);
        }
        int[] others = {-1, 2, 3, LEAST, MOST};
        for (int on : others) {
            CHECK.refused("shut(0, " + on + ")", Texts::used, 2, x -> x.shut(0, on) ? 1 : 0, 0);
            CHECK.refused("shut(2, " + on + ")", Texts::used, 2, x -> x.shut(2, on) ? 1 : 0, 0);
        }
    }

    // 31: "n DRILLS (1 .. 30): how often pairs SIGNED in them; NONE, refused (3), when it can't be."

    private static String pair() {
        return Texts.rooms(1) + Texts.parts(0) + Texts.onLawn(0, 0);
    }

    private static void drillsFromOneToThirty() {
        for (int n = 1; n <= 30; n++) {
            FireDrill x = CHECK.made(Texts.rooms(1) + Texts.parts(0) + Texts.onLawn(0, 0, 0));
            CHECK.is("drills(" + n + ")", x.drills(n), 3 * n);
            CHECK.is("has(4)", x.has(4), n);
            CHECK.is("has(6)", x.has(6), 3 * n);
            CHECK.is("signed(1, 2)", x.signed(1, 2), n);
            CHECK.is("has(8): one act", x.has(8), 1);
            CHECK.is("status(3)", x.status(3), 0);
        }
        // In them alone, not those ahead.
        FireDrill y = CHECK.made(pair());
        y.drills(30);
        CHECK.is("drills(2) behind thirty", y.drills(2), 2);
        // Each sees how many were ahead of it.
        FireDrill z = CHECK.made(pair() + "turns drill=1 or drill=3;");
        CHECK.is("drills(5): the first, third and fifth", z.drills(5), 3);
    }

    private static void drillsThatCannotBe() {
        int[] others = {0, -1, -30, 31, 32, 999, LEAST, MOST};
        for (int n : others) {
            CHECK.refused("drills(" + n + ")", Texts::used, 3, x -> x.drills(n), -1);
        }
    }

    private static FireDrill at(int drills, int signed) {
        FireDrill x = CHECK.made(pair());
        Check.tape(x, Texts.image(drills / 256, drills % 256, 0, signed / 256, signed % 256));
        CHECK.is("on()", x.on(), true);
        return x;
    }

    // II: "there was one DRILL more (999 at most)"

    private static void drillsTo999() {
        FireDrill x = at(969, 0);
        CHECK.is("drills(30) at 969", x.drills(30), 30);
        CHECK.is("has(4)", x.has(4), 999);
        CHECK.is("drills(1) at 999", x.drills(1), -1);
        CHECK.is("has(4)", x.has(4), 999);
        CHECK.is("status(3)", x.status(3), 1);
        CHECK.is("undo()", x.undo(), true);
        CHECK.is("has(4) undone", x.has(4), 969);
        CHECK.is("drills(29) at 970", at(970, 0).drills(29), 29);
        CHECK.refused("drills(30) at 970", () -> at(970, 0), 3, y -> y.drills(30), -1);
        CHECK.refused("drills(2) at 998", () -> at(998, 5), 3, y -> y.drills(2), -1);
        CHECK.is("drills(1) at 998", at(998, 0).drills(1), 1);
    }

    // II: "each pair that SIGNED in it has SIGNED once more (9999 at most)"

    private static void drillsSigned9999AtMost() {
        FireDrill x = at(0, 9997);
        CHECK.is("drills(1) at 9997", x.drills(1), 1);
        CHECK.is("signed(0, 1)", x.signed(0, 1), 9998);
        CHECK.is("drills(1) at 9998", x.drills(1), 1);
        CHECK.is("signed(0, 1)", x.signed(0, 1), 9999);
        CHECK.is("drills(1) at 9999: they sign in it", x.drills(1), 1);
        CHECK.is("signed(0, 1)", x.signed(0, 1), 9999);
        CHECK.is("has(4)", x.has(4), 3);
        CHECK.is("undo()", x.undo(), true);
        CHECK.is("undo()", x.undo(), true);
        CHECK.is("signed(0, 1) undone", x.signed(0, 1), 9998);
        CHECK.is("chance(2)", x.chance(2), 0);
        CHECK.is("signed(0, 1) by chance", x.signed(0, 1), 9999);
        CHECK.is("clerk(0, 4)", x.clerk(0, 4), 9999);
        CHECK.is("has(6)", x.has(6), 9999);
    }

    // 32: "n DRILLS by the seed (1 .. 30), one ACT: how often there was smoke; NONE, refused (3), when it can't be."

    private static String oneStair(int smoke) {
        return Texts.rooms(2) + Texts.way(1, 2) + Texts.parts(0) + Texts.clerks(1, 0, 1) + "smoke " + smoke + ";";
    }

    private static void chanceFromOneToThirty() {
        for (int n = 1; n <= 30; n++) {
            FireDrill x = CHECK.made(oneStair(100));
            CHECK.is("chance(" + n + ") of smoke 100", x.chance(n), n);
            CHECK.is("has(4)", x.has(4), n);
            CHECK.is("has(6): the only stair was shut", x.has(6), 0);
            CHECK.is("has(8)", x.has(8), 1);
            FireDrill y = CHECK.made(oneStair(0));
            CHECK.is("chance(" + n + ") of smoke 0", y.chance(n), 0);
            CHECK.is("has(6)", y.has(6), n);
        }
    }

    private static void chanceByStairsAsWideAsTold() {
        FireDrill x = CHECK.made(Texts.rooms(2) + Texts.way(1, 1) + Texts.parts(0) + Texts.clerks(1, 0, 1, 1) + "signs 9;");
        CHECK.is("chance(3)", x.chance(3), 0);
        CHECK.is("signed(0, 1): nine minutes", x.signed(0, 1), 3);
        CHECK.is("signed(0, 2): he waited one", x.signed(0, 2), 0);
    }

    private static void chanceThatCannotBe() {
        int[] others = {0, -1, -30, 31, 32, 999, LEAST, MOST};
        for (int n : others) {
            CHECK.refused("chance(" + n + ")", Texts::used, 3, x -> x.chance(n), -1);
        }
    }

    private static void chanceTo999() {
        FireDrill x = at(969, 0);
        CHECK.is("chance(30) at 969", x.chance(30), 0);
        CHECK.is("has(4)", x.has(4), 999);
        CHECK.is("chance(1) at 999", x.chance(1), -1);
        CHECK.is("status(3)", x.status(3), 1);
        CHECK.refused("chance(30) at 970", () -> at(970, 0), 3, y -> y.chance(30), -1);
        CHECK.is("chance(29) at 970", at(970, 0).chance(29), 0);
    }

    // II: "a DRAW of 100: below smoke a DRAW of these"; "x (the seed) becomes (1103515245 x + 12345) mod 2 to the 31; floor(x / 64) mod m"

    private static int smokesOnce(int seed, int smoke) {
        FireDrill x = CHECK.made(oneStair(smoke));
        CHECK.is("seed(" + seed + ")", x.seed(seed), true);
        return x.chance(1);
    }

    /** The seed, what it becomes, and the draw of 100 by it, by hand. */
    private static void smokeBelowItsNumber() {
        // 1: 1103527590, 17242618; 0: 12345, 192; the greatest: 1043980748, 16312199; 2: 59559187 (2207042835 less 2 to the 31), 930612.
        int[][] draws = {{1, 18}, {0, 92}, {MOST, 99}, {2, 12}};
        for (int[] row : draws) {
            CHECK.is("seed " + row[0] + ", smoke " + row[1], smokesOnce(row[0], row[1]), 0);
            CHECK.is("seed " + row[0] + ", smoke " + (row[1] + 1), smokesOnce(row[0], row[1] + 1), 1);
            CHECK.is("seed " + row[0] + ", smoke 0", smokesOnce(row[0], 0), 0);
            CHECK.is("seed " + row[0] + ", smoke 100", smokesOnce(row[0], 100), 1);
        }
    }

    private static void smokeDrawsAlsoWhereThereIsNone() {
        // The seed 1 draws 18, 99, 26, 80: with smoke 0 each drill draws once.
        for (int n = 0; n <= 3; n++) {
            int next = new int[] {18, 99, 26, 80}[n];
            for (int more = 0; more <= 1; more++) {
                FireDrill x = CHECK.made(oneStair(0));
                if (n > 0) {
                    CHECK.is("chance(" + n + ")", x.chance(n), 0);
                }
                Check.tape(x, oneStair(next + more));
                x.house();
                CHECK.is("chance(1) behind " + n + ", smoke " + (next + more), x.chance(1), more);
            }
        }
        // With smoke each drill draws twice: 18 and the stair, 26 and the stair, 16 and the stair.
        FireDrill y = CHECK.made(oneStair(26));
        CHECK.is("18 is below 26", y.chance(1), 1);
        CHECK.is("26 is not", y.chance(1), 0);
        FireDrill z = CHECK.made(oneStair(27));
        CHECK.is("18 and 26 and 16 are below 27", z.chance(3), 3);
    }

    // II: "if there are STAIRS"

    private static void noDrawWithoutStairs() {
        for (int more = 0; more <= 1; more++) {
            FireDrill x = CHECK.made(pair() + "smoke 100;");
            CHECK.is("chance(30) without stairs", x.chance(30), 0);
            CHECK.is("has(6)", x.has(6), 30);
            Check.tape(x, oneStair(18 + more));
            x.house();
            CHECK.is("the seed is still 1: smoke " + (18 + more), x.chance(1), more);
        }
        // Those that are all shut are there.
        FireDrill y = CHECK.made(oneStair(100));
        y.shut(0, 1);
        CHECK.is("chance(5) with all shut", y.chance(5), 5);
    }

    // II: "that one is SHUT in it, too"

    /** One on the lawn, and one behind each of two stairs. */
    private static String twoStairs() {
        return Texts.rooms(3) + Texts.stairs(2) + Texts.parts(0) + Texts.clerks(1, 0, 1, 2) + "smoke 100;";
    }

    private static void smokeShutsTheOneDrawn() {
        // The seed 1 draws of two, behind each draw of 100: 1, 0, 0.
        FireDrill x = CHECK.made(twoStairs());
        int[][] signed = {{1, 0}, {1, 1}, {1, 2}};
        for (int k = 0; k < 3; k++) {
            CHECK.is("chance(1)", x.chance(1), 1);
            CHECK.is("signed(0, 1) behind " + (k + 1), x.signed(0, 1), signed[k][0]);
            CHECK.is("signed(0, 2) behind " + (k + 1), x.signed(0, 2), signed[k][1]);
            CHECK.is("has(5): in it alone", x.has(5), 0);
            CHECK.is("out(1): this drill has no smoke", x.out(1), 0);
        }
        FireDrill y = CHECK.made(twoStairs());
        CHECK.is("chance(3): the same at once", y.chance(3), 3);
        CHECK.is("signed(0, 1)", y.signed(0, 1), 1);
        CHECK.is("signed(0, 2)", y.signed(0, 2), 2);
        CHECK.is("signed(1, 2)", y.signed(1, 2), 0);
        // Of ten the seed 1 draws the last.
        FireDrill ten = CHECK.made(Texts.rooms(8) + Texts.way(7, 1) + "stair rh to ra wide 1;stair rg to ra wide 1;stair rf to ra wide 1;"
            + Texts.parts(0) + Texts.clerks(1, 0, 5) + "smoke 100;signs 9;");
        CHECK.is("meets(0, 1) without", ten.meets(0, 1), 9);
        CHECK.is("chance(1)", ten.chance(1), 1);
        CHECK.is("signed(0, 1): a minute later by another way", ten.signed(0, 1), 0);
        CHECK.is("drills(1)", ten.drills(1), 1);
    }

    private static void smokeOnAStairThatIsShut() {
        FireDrill x = CHECK.made(twoStairs());
        x.shut(1, 1);
        CHECK.is("chance(1): it draws of all stairs", x.chance(1), 1);
        CHECK.is("signed(0, 1): the other one is open", x.signed(0, 1), 1);
        CHECK.is("stair(1, 3)", x.stair(1, 3), 1);
        CHECK.is("has(5)", x.has(5), 1);
        CHECK.is("chance(1): now the other", x.chance(1), 1);
        CHECK.is("signed(0, 1)", x.signed(0, 1), 1);
    }

    // 33: "The latest ACT is undone (the seed stays): true; false, refused (4), when none can be."

    private static void undoEachAct() {
        FireDrill x = CHECK.made(Texts.SMALL);
        x.post(0, 20);
        x.shut(0, 1);
        x.drills(30);
        x.chance(30);
        CHECK.is("has(4)", x.has(4), 60);
        CHECK.is("undo() of chance", x.undo(), true);
        CHECK.is("has(4)", x.has(4), 30);
        CHECK.is("undo() of drills", x.undo(), true);
        CHECK.is("has(4)", x.has(4), 0);
        CHECK.is("has(6)", x.has(6), 0);
        CHECK.is("has(5)", x.has(5), 1);
        CHECK.is("undo() of shut", x.undo(), true);
        CHECK.is("has(5)", x.has(5), 0);
        CHECK.is("section(0, 0)", x.section(0, 0), 20);
        CHECK.is("undo() of post", x.undo(), true);
        CHECK.same("all undone", x, CHECK.made(Texts.SMALL));
    }

    private static void undoOfNone() {
        CHECK.refused("undo() at first", FireDrill::new, 4, x -> x.undo() ? 1 : 0, 0);
        CHECK.refused("undo() of a new house", () -> CHECK.made(Texts.SMALL), 4, x -> x.undo() ? 1 : 0, 0);
        FireDrill x = Texts.used();
        for (int k = 0; k < 4; k++) {
            CHECK.is("undo() " + k, x.undo(), true);
            CHECK.is("has(8)", x.has(8), 3 - k);
        }
        CHECK.is("undo() of a fifth", x.undo(), false);
        CHECK.is("undo() again", x.undo(), false);
        CHECK.is("has(8)", x.has(8), 0);
        CHECK.is("status(4)", x.status(4), 2);
        // What was refused was no act.
        x.post(0, 0);
        x.shut(0, 0);
        x.drills(0);
        x.chance(31);
        CHECK.is("undo() of refused ones", x.undo(), false);
    }

    // II: "The last 20 can be undone."

    private static void undoTheLastTwenty() {
        for (int acts = 19; acts <= 22; acts++) {
            FireDrill x = CHECK.made(Texts.parts(0, 0));
            for (int k = 1; k <= acts; k++) {
                x.post(k % 2, k % 20 + 1);
            }
            int most = Math.min(20, acts);
            CHECK.is("has(8) behind " + acts, x.has(8), most);
            for (int k = acts; k > acts - most; k--) {
                CHECK.is("section ahead of undoing " + k, x.section(k % 2, 0), k % 20 + 1);
                CHECK.is("undo() of " + k, x.undo(), true);
                CHECK.is("section behind undoing " + k, x.section(k % 2, 0), k > 2 ? (k - 2) % 20 + 1 : 0);
            }
            CHECK.is("undo() of the one ahead", x.undo(), false);
            CHECK.is("status(4)", x.status(4), 1);
        }
    }

    private static void undoRoundAndRound() {
        FireDrill x = CHECK.made(Texts.parts(0));
        int[] past = new int[400];
        int count = 0;
        int open = 0;
        for (int k = 0; k < 60; k++) {
            boolean back = k % 7 > 4;
            if (back) {
                CHECK.is("undo() in step " + k, x.undo(), open > 0);
                count -= open > 0 ? 1 : 0;
                open = Math.max(0, open - 1);
            } else {
                count++;
                past[count] = past[count - 1] == k % 20 + 1 ? 0 : k % 20 + 1;
                CHECK.is("post in step " + k, x.post(0, past[count]), true);
                open = Math.min(20, open + 1);
            }
            CHECK.is("section(0, 0) in step " + k, x.section(0, 0), past[count]);
            CHECK.is("has(8) in step " + k, x.has(8), open);
        }
        while (open > 0) {
            CHECK.is("undo()", x.undo(), true);
            open--;
            count--;
            CHECK.is("section(0, 0)", x.section(0, 0), past[count]);
        }
        CHECK.is("undo()", x.undo(), false);
    }

    private static void undoLeavesTheSeed() {
        // The seed 1 draws 18 and 99, smoke 19: the second drill has none, undone or not.
        FireDrill x = CHECK.made(oneStair(19));
        FireDrill twin = CHECK.made(oneStair(19));
        CHECK.is("chance(1)", x.chance(1), 1);
        CHECK.is("undo()", x.undo(), true);
        CHECK.is("chance(1) of the twin", twin.chance(1), 1);
        for (int k = 0; k < 20; k++) {
            CHECK.is("chance(1) behind undo()", x.chance(1), twin.chance(1));
        }
        CHECK.is("has(4)", x.has(4), 20);
    }

    // 34: "The seed: true; false, refused (5), when it is below 0. (It is 1 at first.)"

    private static void seedFromZeroOn() {
        int[] seeds = {0, 1, 2, 63, 64, 1 << 30, MOST - 1, MOST};
        for (int seed : seeds) {
            FireDrill x = CHECK.made(oneStair(50));
            CHECK.is("seed(" + seed + ")", x.seed(seed), true);
            CHECK.is("status(5)", x.status(5), 0);
        }
    }

    private static void seedBelowZero() {
        int[] seeds = {-1, -2, LEAST + 1, LEAST};
        for (int seed : seeds) {
            CHECK.refused("seed(" + seed + ")", Texts::used, 5, x -> x.seed(seed) ? 1 : 0, 0);
            FireDrill x = CHECK.made(oneStair(92));
            FireDrill y = CHECK.made(oneStair(93));
            x.seed(0);
            y.seed(0);
            CHECK.is("seed(" + seed + ")", x.seed(seed), false);
            CHECK.is("seed(" + seed + ")", y.seed(seed), false);
            CHECK.is("the seed is still 0: smoke 92", x.chance(1), 0);
            CHECK.is("the seed is still 0: smoke 93", y.chance(1), 1);
        }
    }

    private static void seedIsOneAtFirst() {
        CHECK.is("smoke 18", CHECK.made(oneStair(18)).chance(1), 0);
        CHECK.is("smoke 19", CHECK.made(oneStair(19)).chance(1), 1);
    }

    private static void seedIsNoAct() {
        FireDrill x = CHECK.made(oneStair(50));
        x.post(0, 5);
        x.seed(9);
        CHECK.is("has(8)", x.has(8), 1);
        CHECK.is("undo() of the post", x.undo(), true);
        CHECK.is("section(0, 0)", x.section(0, 0), 0);
    }
}
