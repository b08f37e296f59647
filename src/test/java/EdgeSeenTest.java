/** Promises 26 to 28, bound by bound: see, shuts, whom. */
public final class EdgeSeenTest {
    private static final Check CHECK = new Check("EdgeSeenTest");
    private static final int[] FAR_OFF = {Integer.MIN_VALUE, -100, -1, 2, 3, 100, Integer.MAX_VALUE};

    public static void main(String[] args) {
        oneToSixteenRows();
        noRowsOrHalfOnes();
        clerksThatThereAre();
        outsThatCanBe();
        anyRowAtFaultRefusesAll();
        seeWithoutClerks();
        seeAgainReplaces();
        seeTakesTheTape();
        refusedLeavesAll();
        allIfNothingIsSeen();
        thoseThatAreShutAreNone();
        oneOfThemOrNone();
        aheadOfAllAndNever();
        likeRowsAndUnlikeRows();
        seenByThisDrill();
        shutsForOthers();
        whomOfLikeOnesTheFirst();
        whomCountsThatNoneWas();
        whomWithoutAny();
        whomForOthers();
        CHECK.finish();
    }

    private static int see(FireDrill x, int... bytes) {
        Check.tape(x, bytes);
        return x.see();
    }

    /** Three rooms, each with its own stair to the lawn, and a clerk in each; a fourth clerk on the lawn. */
    private static FireDrill star() {
        return CHECK.made(Texts.rooms(4) + Texts.stairs(3) + Texts.parts(0) + Texts.clerks(1, 1, 2, 3, 0));
    }

    // 26: "The tape (it goes) tells what is SEEN, 1 to 16 rows of two bytes: CLERK, OUT: how many rows"

    private static void oneToSixteenRows() {
        for (int rows = 1; rows <= 16; rows++) {
            FireDrill x = star();
            CHECK.is("see() of " + rows, see(x, new int[2 * rows]), rows);
            CHECK.is("has(7)", x.has(7), rows);
            CHECK.is("status(1)", x.status(1), 0);
        }
        for (int rows = 17; rows <= 18; rows++) {
            FireDrill x = star();
            CHECK.is("see() of " + rows, see(x, new int[2 * rows]), -1);
            CHECK.is("has(7)", x.has(7), 0);
            CHECK.is("status(1)", x.status(1), 1);
        }
        CHECK.is("see() of 1600 bytes", see(star(), new int[1600]), -1);
        // Each of sixteen rows counts, also the last.
        FireDrill x = star();
        int[] bytes = new int[32];
        bytes[30] = 1;
        bytes[31] = 99;
        CHECK.is("see()", see(x, bytes), 16);
        CHECK.is("shuts(0): stair 1 by the last row", x.shuts(0), 2);
    }

    private static void noRowsOrHalfOnes() {
        for (int bytes = 0; bytes <= 35; bytes++) {
            FireDrill x = star();
            boolean right = bytes >= 2 && bytes <= 32 && bytes % 2 == 0;
            CHECK.is("see() of " + bytes + " bytes", see(x, new int[bytes]), right ? bytes / 2 : -1);
            CHECK.is("status(1)", x.status(1), right ? 0 : 1);
        }
    }

    // 26: "NONE, refused (1), all staying, when it is none such"

    private static void clerksThatThereAre() {
        for (int clerk = 0; clerk < 256; clerk++) {
            FireDrill x = star();
            CHECK.is("see() of clerk " + clerk, see(x, clerk, 0), clerk < 4 ? 1 : -1);
        }
    }

    // III: "OUT (0 .. 8; 99; 255: ahead of all)"

    private static void outsThatCanBe() {
        for (int out = 0; out < 256; out++) {
            FireDrill x = star();
            boolean right = out <= 8 || out == 99 || out == 255;
            CHECK.is("see() of OUT " + out, see(x, 0, out), right ? 1 : -1);
            CHECK.is("has(7)", x.has(7), right ? 1 : 0);
            CHECK.is("status(1)", x.status(1), right ? 0 : 1);
        }
    }

    private static void anyRowAtFaultRefusesAll() {
        for (int at = 0; at < 16; at++) {
            int[] wrongOut = new int[32];
            wrongOut[2 * at + 1] = 9;
            CHECK.is("see() with a wrong OUT in row " + at, see(star(), wrongOut), -1);
            int[] wrongClerk = new int[32];
            wrongClerk[2 * at] = 4;
            CHECK.is("see() with a wrong clerk in row " + at, see(star(), wrongClerk), -1);
        }
    }

    private static void seeWithoutClerks() {
        CHECK.is("see() of no house", see(new FireDrill(), 0, 0), -1);
        CHECK.is("see() of a house without clerks", see(CHECK.made(Texts.rooms(2)), 0, 0), -1);
        FireDrill most = CHECK.made(Texts.rooms(1) + Texts.parts(0) + Texts.clerks(1, 0, 0, 0, 0, 0, 0, 0, 0));
        CHECK.is("see() of the eighth clerk", see(most, 7, 255), 1);
        CHECK.is("see() of a ninth", see(most, 8, 255), -1);
    }

    private static void seeAgainReplaces() {
        FireDrill x = star();
        CHECK.is("see()", see(x, 0, 0, 1, 0, 2, 0), 3);
        CHECK.is("shuts(0): none of them", x.shuts(0), 0);
        CHECK.is("see() again", see(x, 0, 99), 1);
        CHECK.is("has(7)", x.has(7), 1);
        CHECK.is("shuts(0): by the latest alone", x.shuts(0), 1);
    }

    private static void seeTakesTheTape() {
        FireDrill x = star();
        see(x, 0, 0);
        CHECK.is("end(1) behind see()", x.end(1), false);
        see(x, 9, 9);
        CHECK.is("end(1) behind a refused see()", x.end(1), false);
        CHECK.is("feed", x.feed(0, 0, 0, 0, 0), 20);
    }

    private static void refusedLeavesAll() {
        CHECK.refused("see() of nothing", Texts::used, 1, x -> see(x), -1);
        CHECK.refused("see() of one byte", Texts::used, 1, x -> see(x, 0), -1);
        CHECK.refused("see() of seventeen rows", Texts::used, 1, x -> see(x, new int[34]), -1);
        CHECK.refused("see() of a clerk that is none", Texts::used, 1, x -> see(x, 0, 0, 3, 0), -1);
        CHECK.refused("see() of an OUT that can't be", Texts::used, 1, x -> see(x, 1, 99, 0, 9), -1);
    }

    // 27: "STAIRS, one of which was SHUT, too, by what is SEEN (all, if nothing is), as bits (what 0; those that are SHUT are none)"

    private static void allIfNothingIsSeen() {
        FireDrill x = star();
        CHECK.is("shuts(0) with nothing seen", x.shuts(0), 7);
        CHECK.is("shuts(1) with nothing seen", x.shuts(1), 1);
        FireDrill most = CHECK.made(Texts.rooms(8) + Texts.stairs(10));
        CHECK.is("shuts(0) of ten", most.shuts(0), 1023);
        FireDrill bare = CHECK.made(Texts.rooms(8));
        CHECK.is("shuts(0) of none", bare.shuts(0), 0);
        CHECK.is("shuts(1) of none", bare.shuts(1), 1);
    }

    private static void thoseThatAreShutAreNone() {
        FireDrill x = star();
        x.shut(1, 1);
        CHECK.is("shuts(0) with one shut", x.shuts(0), 5);
        x.shut(0, 1);
        x.shut(2, 1);
        CHECK.is("shuts(0) with all shut", x.shuts(0), 0);
        CHECK.is("shuts(1) with all shut", x.shuts(1), 1);
        see(x, 0, 99);
        CHECK.is("shuts(0): it is shut already", x.shuts(0), 0);
        CHECK.is("shuts(1): so none was, too", x.shuts(1), 1);
    }

    // III: "STAIRS, one of which (or none) was SHUT, too, in this DRILL, by which all is so"; 27: "whether it can be that none was"

    private static void oneOfThemOrNone() {
        FireDrill x = star();
        see(x, 0, 99);
        CHECK.is("shuts(0): stair 0", x.shuts(0), 1);
        CHECK.is("shuts(1): not none", x.shuts(1), 0);
        see(x, 0, 0);
        CHECK.is("shuts(0): not stair 0", x.shuts(0), 6);
        CHECK.is("shuts(1): it can be", x.shuts(1), 1);
        see(x, 0, 0, 1, 0);
        CHECK.is("shuts(0): stair 2", x.shuts(0), 4);
        see(x, 0, 0, 1, 0, 2, 0);
        CHECK.is("shuts(0): no stair", x.shuts(0), 0);
        CHECK.is("shuts(1): none was", x.shuts(1), 1);
        see(x, 0, 99, 1, 99);
        CHECK.is("shuts(0): never two at once", x.shuts(0), 0);
        CHECK.is("shuts(1)", x.shuts(1), 0);
        FireDrill most = CHECK.made(Texts.rooms(8) + Texts.way(7, 1) + "stair rh to ra wide 1;stair rg to ra wide 1;stair rf to ra wide 1;"
            + Texts.parts(0) + Texts.clerks(1, 5));
        see(most, 0, 0);
        CHECK.is("shuts(0): all but the tenth", most.shuts(0), 511);
        see(most, 0, 1);
        CHECK.is("shuts(0): the tenth", most.shuts(0), 512);
    }

    private static void aheadOfAllAndNever() {
        FireDrill x = star();
        see(x, 3, 255);
        CHECK.is("shuts(0): on the lawn whatever was shut", x.shuts(0), 7);
        CHECK.is("shuts(1)", x.shuts(1), 1);
        see(x, 3, 0);
        CHECK.is("shuts(0): ahead of all is not minute 0", x.shuts(0), 0);
        CHECK.is("shuts(1)", x.shuts(1), 0);
        see(x, 3, 99);
        CHECK.is("shuts(0): nor never", x.shuts(0), 0);
        see(x, 0, 255);
        CHECK.is("shuts(0): who is inside is not out ahead of all", x.shuts(0), 0);
        // OUT 8, the last minute: the seventh of seven by a way of three.
        FireDrill late = CHECK.made(Texts.rooms(4) + Texts.way(3, 1) + Texts.parts(0) + Texts.clerks(1, 3, 3, 3, 3, 3, 3, 3, 3));
        see(late, 6, 8);
        CHECK.is("shuts(1) of OUT 8", late.shuts(1), 1);
        CHECK.is("shuts(0) of OUT 8", late.shuts(0), 0);
        see(late, 7, 99, 6, 8);
        CHECK.is("shuts(1) of OUT 99", late.shuts(1), 1);
        see(late, 6, 99);
        CHECK.is("shuts(0): any of the way", late.shuts(0), 7);
    }

    private static void likeRowsAndUnlikeRows() {
        FireDrill x = star();
        CHECK.is("see() of a row twice", see(x, 0, 0, 0, 0), 2);
        CHECK.is("shuts(0)", x.shuts(0), 6);
        CHECK.is("see() of unlike rows", see(x, 0, 0, 0, 99), 2);
        CHECK.is("shuts(0): both cannot be", x.shuts(0), 0);
        CHECK.is("shuts(1)", x.shuts(1), 0);
    }

    private static void seenByThisDrill() {
        FireDrill x = CHECK.made(Texts.rooms(2) + Texts.way(1, 1) + Texts.parts(0) + Texts.clerks(1, 1, 1));
        see(x, 1, 1);
        CHECK.is("shuts(1)", x.shuts(1), 1);
        CHECK.is("shuts(0)", x.shuts(0), 0);
        x.shut(0, 1);
        CHECK.is("shuts(1) as it is now", x.shuts(1), 0);
        x.undo();
        CHECK.is("shuts(1) undone", x.shuts(1), 1);
        CHECK.is("has(7): acts leave what is seen", x.has(7), 1);
        x.drills(30);
        CHECK.is("shuts(1) behind drills", x.shuts(1), 1);
        CHECK.is("has(7) behind drills", x.has(7), 1);
    }

    private static void shutsForOthers() {
        FireDrill x = star();
        for (int what : FAR_OFF) {
            CHECK.is("shuts(" + what + ")", x.shuts(what), -1);
        }
        CHECK.refused("shuts(2)", Texts::used, -1, y -> y.shuts(2), -1);
        CHECK.refused("shuts(0), no act", Texts::used, -1, y -> y.shuts(0), Texts.used().shuts(0));
    }

    // III: "WHOM to ask is the CLERK by whose OUT, whatever it is, the most of these left are fewest; of like ones the first."; 28

    private static void whomIs(String what, FireDrill x, int clerk, int left) {
        CHECK.is(what + ": whom(0)", x.whom(0), clerk);
        CHECK.is(what + ": whom(1)", x.whom(1), left);
    }

    private static void whomOfLikeOnesTheFirst() {
        FireDrill x = star();
        // Each of three tells his stair from the two others and none.
        whomIs("alike", x, 0, 3);
        see(x, 0, 0);
        whomIs("the first tells nothing more", x, 1, 2);
        see(x, 0, 0, 1, 0);
        whomIs("the third alone tells", x, 2, 1);
        see(x, 0, 0, 1, 0, 2, 0);
        whomIs("one left: the first", x, 0, 1);
        // Of a way who is above tells most.
        FireDrill y = CHECK.made(Texts.rooms(4) + Texts.way(3, 1) + Texts.parts(0) + Texts.clerks(1, 1, 2, 3));
        // OUT of the third: none 2, any 99: three are left; of the second two and two.
        whomIs("a way", y, 1, 2);
    }

    private static void whomCountsThatNoneWas() {
        FireDrill x = CHECK.made(Texts.rooms(2) + Texts.way(1, 1) + Texts.parts(0) + Texts.clerks(1, 0, 1));
        // Left are stair 0 and none: the second tells them apart.
        whomIs("stair or none", x, 1, 1);
        see(x, 0, 255);
        whomIs("stair or none by one seen", x, 1, 1);
        FireDrill lawn = CHECK.made(Texts.rooms(2) + Texts.way(1, 1) + Texts.parts(0) + Texts.clerks(1, 0));
        whomIs("none tells them apart", lawn, 0, 2);
        see(x, 1, 99);
        whomIs("the stair alone", x, 0, 1);
        FireDrill bare = CHECK.made(Texts.rooms(1) + Texts.parts(0) + Texts.clerks(1, 0));
        whomIs("none alone", bare, 0, 1);
        FireDrill most = CHECK.made(Texts.rooms(8) + Texts.stairs(10) + Texts.parts(0) + Texts.clerks(1, 0));
        whomIs("all ten and none", most, 0, 11);
    }

    // 28: "NONE without any, without CLERKS, or for others."

    private static void whomWithoutAny() {
        FireDrill x = star();
        see(x, 3, 0);
        whomIs("without any", x, -1, -1);
        see(x, 3, 255);
        whomIs("with all", x, 0, 3);
        whomIs("without clerks", CHECK.made(Texts.rooms(2) + Texts.way(1, 1)), -1, -1);
        whomIs("without a house", new FireDrill(), -1, -1);
    }

    private static void whomForOthers() {
        FireDrill x = star();
        for (int what : FAR_OFF) {
            CHECK.is("whom(" + what + ")", x.whom(what), -1);
        }
        CHECK.refused("whom(2)", Texts::used, -1, y -> y.whom(2), -1);
        CHECK.refused("whom(0), no act", Texts::used, -1, y -> y.whom(0), Texts.used().whom(0));
    }
}
