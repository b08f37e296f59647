/** Promises 6 to 12, bound by bound: what is told of the house, its rooms, stairs, sections and clerks. */
public final class EdgeHouseTest {
    private static final Check CHECK = new Check("EdgeHouseTest");
    private static final int[] FAR_OFF = {Integer.MIN_VALUE, -2147483647, -100, 100, 2147483646, Integer.MAX_VALUE};
    private static final String HOUSE = "room lawn;room abcdef;room z;stair abcdef to lawn wide 4;stair z to abcdef wide 1;part yyyyyy post 20;"
        + "part p post 0;clerk aaaaaa in lawn of p pace 3 bag 9;clerk b in abcdef of p pace 1 bag 0;clerk ccc in z of yyyyyy pace 2 bag 5;";

    public static void main(String[] args) {
        hasFromZeroToEight();
        hasForOthers();
        hasAsActsGo();
        letterKinds();
        letterOfNoneSuch();
        letterFromZeroToFive();
        farOfRoomsReached();
        farOfRoomsNotReached();
        farOfNoneSuch();
        stairFromZeroToThree();
        stairOfNoneSuch();
        sectionZeroAndOne();
        sectionOfNoneSuch();
        clerkFromZeroToFour();
        clerkOfNoneSuch();
        signedOfTwo();
        signedOfNoneSuchOrOne();
        tellingChangesNothing();
        CHECK.finish();
    }

    private static FireDrill house() {
        return CHECK.house(HOUSE, 10);
    }

    // 6: "How many there are: 0 ROOMS, 1 STAIRS, .. 8 ACTS that can be undone. NONE for others."

    private static void hasFromZeroToEight() {
        FireDrill x = Texts.used();
        int[] due = {3, 3, 2, 3, 5, 1, x.signed(0, 1) + x.signed(0, 2) + x.signed(1, 2), 1, 4};
        for (int what = 0; what < due.length; what++) {
            CHECK.is("has(" + what + ")", x.has(what), due[what]);
        }
        CHECK.is("has(6) is some", x.has(6) > 0, true);
    }

    private static void hasForOthers() {
        FireDrill x = Texts.used();
        CHECK.is("has(-1)", x.has(-1), -1);
        CHECK.is("has(9)", x.has(9), -1);
        for (int what : FAR_OFF) {
            CHECK.is("has(" + what + ")", x.has(what), -1);
        }
    }

    private static void hasAsActsGo() {
        FireDrill x = house();
        for (int stair = 0; stair < 2; stair++) {
            x.shut(stair, 1);
            CHECK.is("has(5)", x.has(5), stair + 1);
        }
        x.shut(0, 0);
        CHECK.is("has(5) with one no more", x.has(5), 1);
        CHECK.is("has(8)", x.has(8), 3);
        x.undo();
        CHECK.is("has(5) undone", x.has(5), 2);
        CHECK.is("has(8) undone", x.has(8), 2);
        x.drills(1);
        CHECK.is("has(4)", x.has(4), 1);
    }

    // 7: "Letter k (0 .. 5) of the NAME .. 1 .. 26; 0 behind it; NONE when there is none such."

    private static void letterKinds() {
        FireDrill x = house();
        String[][] names = {{"lawn", "abcdef", "z"}, {"yyyyyy", "p"}, {"aaaaaa", "b", "ccc"}};
        for (int kind = 0; kind < 3; kind++) {
            for (int which = 0; which < names[kind].length; which++) {
                String name = names[kind][which];
                for (int k = 0; k < 6; k++) {
                    CHECK.is("letter " + k + " of " + name, x.letter(kind, which, k), k < name.length() ? name.charAt(k) - 96 : 0);
                }
            }
        }
        FireDrill all = CHECK.house("room abcdef;room ghijkl;room mnopqr;room stuvwx;room yz;", 5);
        for (int k = 0; k < 26; k++) {
            CHECK.is("letter " + (k + 1), all.letter(0, k / 6, k % 6), k + 1);
        }
        CHECK.is("letter behind z", all.letter(0, 4, 2), 0);
    }

    private static void letterOfNoneSuch() {
        FireDrill x = house();
        int[] counts = {3, 2, 3};
        for (int kind = 0; kind < 3; kind++) {
            CHECK.is("letter of the last", x.letter(kind, counts[kind] - 1, 0) > 0, true);
            CHECK.is("letter of one more", x.letter(kind, counts[kind], 0), -1);
            CHECK.is("letter of -1", x.letter(kind, -1, 0), -1);
            for (int which : FAR_OFF) {
                CHECK.is("letter of " + which, x.letter(kind, which, 0), -1);
            }
        }
        CHECK.is("letter of kind -1", x.letter(-1, 0, 0), -1);
        CHECK.is("letter of kind 3", x.letter(3, 0, 0), -1);
        for (int kind : FAR_OFF) {
            CHECK.is("letter of kind " + kind, x.letter(kind, 0, 0), -1);
        }
    }

    private static void letterFromZeroToFive() {
        FireDrill x = house();
        for (int kind = 0; kind < 3; kind++) {
            for (int which = 0; which < 2; which++) {
                CHECK.is("letter -1", x.letter(kind, which, -1), -1);
                CHECK.is("letter 5 is told", x.letter(kind, which, 5) >= 0, true);
                CHECK.is("letter 6", x.letter(kind, which, 6), -1);
                for (int k : FAR_OFF) {
                    CHECK.is("letter " + k, x.letter(kind, which, k), -1);
                }
            }
        }
    }

    // 8: "How far a ROOM is from the LAWN now; NONE when it is not reached, or there is none such."

    private static void farOfRoomsReached() {
        FireDrill x = CHECK.house(Texts.rooms(8) + Texts.way(7, 1), 15);
        for (int room = 0; room < 8; room++) {
            CHECK.is("far(" + room + ") of a way", x.far(room), room);
        }
        FireDrill ring = CHECK.house(Texts.rooms(8) + Texts.way(7, 1) + "stair rh to ra wide 1;", 16);
        int[] due = {0, 1, 2, 3, 4, 3, 2, 1};
        for (int room = 0; room < 8; room++) {
            CHECK.is("far(" + room + ") of a ring", ring.far(room), due[room]);
        }
        CHECK.is("far(0) of a lawn alone", CHECK.house("room a;", 1).far(0), 0);
    }

    private static void farOfRoomsNotReached() {
        FireDrill x = CHECK.house(Texts.rooms(4) + Texts.way(3, 1), 7);
        x.shut(1, 1);
        int[] due = {0, 1, -1, -1};
        for (int room = 0; room < 4; room++) {
            CHECK.is("far(" + room + ") with a stair shut", x.far(room), due[room]);
        }
        x.shut(0, 1);
        CHECK.is("far(0): the lawn is there still", x.far(0), 0);
        CHECK.is("far(1)", x.far(1), -1);
        x.shut(1, 0);
        CHECK.is("far(2): open, but behind a shut one", x.far(2), -1);
        x.shut(0, 0);
        CHECK.is("far(3) now", x.far(3), 3);
        CHECK.is("far of a room without stairs", CHECK.house("room a;room b;", 2).far(1), -1);
    }

    private static void farOfNoneSuch() {
        FireDrill x = house();
        CHECK.is("far(2)", x.far(2), 2);
        CHECK.is("far(3)", x.far(3), -1);
        CHECK.is("far(-1)", x.far(-1), -1);
        FireDrill most = CHECK.house(Texts.rooms(8), 8);
        CHECK.is("far(8) of eight", most.far(8), -1);
        for (int room : FAR_OFF) {
            CHECK.is("far(" + room + ")", x.far(room), -1);
        }
    }

    // 9: "0, 1 its ROOMS, as told, 2 how wide, 3 whether it is SHUT. NONE when there is none such, or for others."

    private static void stairFromZeroToThree() {
        FireDrill x = house();
        int[][] due = {{1, 0, 4, 0}, {2, 1, 1, 0}};
        for (int stair = 0; stair < 2; stair++) {
            for (int what = 0; what < 4; what++) {
                CHECK.is("stair(" + stair + ", " + what + ")", x.stair(stair, what), due[stair][what]);
            }
        }
        x.shut(1, 1);
        CHECK.is("stair(0, 3)", x.stair(0, 3), 0);
        CHECK.is("stair(1, 3)", x.stair(1, 3), 1);
        CHECK.is("stair(1, 2): as wide as told", x.stair(1, 2), 1);
        x.shut(1, 0);
        CHECK.is("stair(1, 3) no more", x.stair(1, 3), 0);
    }

    private static void stairOfNoneSuch() {
        FireDrill x = house();
        for (int what = 0; what < 4; what++) {
            CHECK.is("stair(2, " + what + ")", x.stair(2, what), -1);
            CHECK.is("stair(-1, " + what + ")", x.stair(-1, what), -1);
            for (int stair : FAR_OFF) {
                CHECK.is("stair(" + stair + ", " + what + ")", x.stair(stair, what), -1);
            }
        }
        CHECK.is("stair(0, 4)", x.stair(0, 4), -1);
        CHECK.is("stair(0, -1)", x.stair(0, -1), -1);
        for (int what : FAR_OFF) {
            CHECK.is("stair(0, " + what + ")", x.stair(0, what), -1);
        }
    }

    // 10: "0 its POST, 1 its CLERKS, as bits. NONE when there is none such, or for others."

    private static void sectionZeroAndOne() {
        FireDrill x = house();
        CHECK.is("section(0, 0)", x.section(0, 0), 20);
        CHECK.is("section(1, 0)", x.section(1, 0), 0);
        CHECK.is("section(0, 1)", x.section(0, 1), 4);
        CHECK.is("section(1, 1)", x.section(1, 1), 3);
        x.post(1, 20);
        CHECK.is("section(1, 0) as it is now", x.section(1, 0), 20);
        CHECK.is("section(0, 1) without clerks", CHECK.house("part p post 1;", 1).section(0, 1), 0);
        String eight = Texts.rooms(1) + Texts.parts(0, 0) + Texts.onLawn(1, 1, 1, 1, 1, 1, 1, 1);
        FireDrill most = CHECK.house(eight, 11);
        CHECK.is("section(1, 1) of eight", most.section(1, 1), 255);
        CHECK.is("section(0, 1) of none", most.section(0, 1), 0);
    }

    private static void sectionOfNoneSuch() {
        FireDrill x = house();
        for (int what = 0; what < 2; what++) {
            CHECK.is("section(2, " + what + ")", x.section(2, what), -1);
            CHECK.is("section(-1, " + what + ")", x.section(-1, what), -1);
            for (int section : FAR_OFF) {
                CHECK.is("section(" + section + ", " + what + ")", x.section(section, what), -1);
            }
        }
        CHECK.is("section(0, 2)", x.section(0, 2), -1);
        CHECK.is("section(0, -1)", x.section(0, -1), -1);
        for (int what : FAR_OFF) {
            CHECK.is("section(0, " + what + ")", x.section(0, what), -1);
        }
    }

    // 11: "0 his ROOM, 1 his SECTION, 2 pace, 3 what he carries, 4 how often he SIGNED, with all. NONE .."

    private static void clerkFromZeroToFour() {
        FireDrill x = house();
        int[][] due = {{0, 1, 3, 9, 0}, {1, 1, 1, 0, 0}, {2, 0, 2, 5, 0}};
        for (int clerk = 0; clerk < 3; clerk++) {
            for (int what = 0; what < 5; what++) {
                CHECK.is("clerk(" + clerk + ", " + what + ")", x.clerk(clerk, what), due[clerk][what]);
            }
        }
        x.drills(2);
        CHECK.is("clerk(0, 4): with all", x.clerk(0, 4), 2);
        CHECK.is("clerk(2, 4): with none", x.clerk(2, 4), 0);
        x.post(0, 3);
        x.drills(1);
        CHECK.is("clerk(0, 4)", x.clerk(0, 4), 4);
        CHECK.is("clerk(1, 4)", x.clerk(1, 4), 4);
        CHECK.is("clerk(2, 4)", x.clerk(2, 4), 2);
    }

    private static void clerkOfNoneSuch() {
        FireDrill x = house();
        for (int what = 0; what < 5; what++) {
            CHECK.is("clerk(3, " + what + ")", x.clerk(3, what), -1);
            CHECK.is("clerk(-1, " + what + ")", x.clerk(-1, what), -1);
            for (int clerk : FAR_OFF) {
                CHECK.is("clerk(" + clerk + ", " + what + ")", x.clerk(clerk, what), -1);
            }
        }
        CHECK.is("clerk(0, 5)", x.clerk(0, 5), -1);
        CHECK.is("clerk(0, -1)", x.clerk(0, -1), -1);
        for (int what : FAR_OFF) {
            CHECK.is("clerk(0, " + what + ")", x.clerk(0, what), -1);
        }
    }

    // 12: "How often two CLERKS SIGNED; NONE when there are none such, or they are one."

    private static void signedOfTwo() {
        FireDrill x = CHECK.house(Texts.rooms(1) + Texts.parts(0, 9) + Texts.onLawn(0, 0, 0, 0, 0, 0, 1, 0), 11);
        x.drills(3);
        for (int one = 0; one < 8; one++) {
            for (int other = 0; other < 8; other++) {
                int due = one == 6 || other == 6 ? 0 : 3;
                CHECK.is("signed(" + one + ", " + other + ")", x.signed(one, other), one == other ? -1 : due);
            }
        }
        CHECK.is("has(6): each pair once", x.has(6), 21 * 3);
    }

    private static void signedOfNoneSuchOrOne() {
        FireDrill x = house();
        CHECK.is("signed(1, 2)", x.signed(1, 2), 0);
        for (int clerk = 0; clerk < 3; clerk++) {
            CHECK.is("signed of one", x.signed(clerk, clerk), -1);
            CHECK.is("signed(.., 3)", x.signed(clerk, 3), -1);
            CHECK.is("signed(3, ..)", x.signed(3, clerk), -1);
            CHECK.is("signed(.., -1)", x.signed(clerk, -1), -1);
            CHECK.is("signed(-1, ..)", x.signed(-1, clerk), -1);
            for (int other : FAR_OFF) {
                CHECK.is("signed(.., " + other + ")", x.signed(clerk, other), -1);
                CHECK.is("signed(" + other + ", ..)", x.signed(other, clerk), -1);
            }
        }
    }

    private static void tellingChangesNothing() {
        CHECK.refused("has(9)", Texts::used, -1, x -> x.has(9), -1);
        CHECK.refused("letter(0, 3, 0)", Texts::used, -1, x -> x.letter(0, 3, 0), -1);
        CHECK.refused("far(3)", Texts::used, -1, x -> x.far(3), -1);
        CHECK.refused("stair(3, 0)", Texts::used, -1, x -> x.stair(3, 0), -1);
        CHECK.refused("section(2, 0)", Texts::used, -1, x -> x.section(2, 0), -1);
        CHECK.refused("clerk(3, 0)", Texts::used, -1, x -> x.clerk(3, 0), -1);
        CHECK.refused("signed(0, 3)", Texts::used, -1, x -> x.signed(0, 3), -1);
        CHECK.refused("fault(2)", Texts::used, -1, x -> x.fault(2), -1);
    }
}
