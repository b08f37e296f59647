/** Promises 4 and 6 to 12: house, has, letter, far, stair, section, clerk, signed. */
public final class HouseTest {
    private static final Check CHECK = new Check("HouseTest");
    private static final String HOUSE = "room lawn; room hall; room loft; room shed; stair hall to lawn wide 4;"
        + "stair loft to hall wide 1; part maps post 20; part abcdef post 0;"
        + "clerk ann in loft of maps pace 3 bag 9; clerk z in lawn of abcdef pace 1 bag 0;"
        + "clerk bob in shed of maps pace 2 bag 5;";

    public static void main(String[] args) {
        texts();
        parts();
        letters();
        stairsAndFar();
        sectionsAndClerks();
        allAsAtFirst();
        allStays();
        limits();
        lastOneCounts();
        behindOthers();
        CHECK.finish();
    }

    private static void texts() {
        CHECK.house("", 0);
        CHECK.house(" \n ", 0);
        CHECK.house("room a;", 1);
        CHECK.house("\n room\na\n;\n", 1);
        CHECK.house("hears 0;hears 20;signs 1;signs 9;smoke 0;smoke 100;", 6);
        CHECK.house("hears 0003;", 1);
        CHECK.house("turns all;dear 9999;", 2);
        CHECK.house("turns[all]or not all and 1<2;", 1);
        CHECK.house("turns(pace)<min(bag,drill)*max(minute,crowd)/2;", 1);
        CHECK.house("dear(pace+bag-drill)*other/long;", 1);
        // Words of questions are no own words.
        CHECK.house("room first;room last;room often;room total;room most;room least;", 6);
        CHECK.house("part room" + "s post 0;", 1);
    }

    private static void parts() {
        FireDrill x = CHECK.house(HOUSE, 11);
        int[] due = {4, 2, 2, 3, 0, 0, 0, 0, 0};
        for (int what = 0; what < due.length; what++) {
            CHECK.is("has(" + what + ")", x.has(what), due[what]);
        }
        CHECK.is("has(9)", x.has(9), -1);
        CHECK.is("has(-1)", x.has(-1), -1);
        x.shut(0, 1);
        x.shut(1, 1);
        x.post(0, 3);
        x.drills(5);
        CHECK.is("has(4)", x.has(4), 5);
        CHECK.is("has(5)", x.has(5), 2);
        CHECK.is("has(8)", x.has(8), 4);
    }

    private static void letters() {
        FireDrill x = CHECK.house(HOUSE, 11);
        String[][] names = {{"lawn", "hall", "loft", "shed"}, {"maps", "abcdef"}, {"ann", "z", "bob"}};
        for (int kind = 0; kind < names.length; kind++) {
            for (int which = 0; which < names[kind].length; which++) {
                for (int k = 0; k < 6; k++) {
                    String name = names[kind][which];
                    CHECK.is("letter of " + name, x.letter(kind, which, k), k < name.length() ? name.charAt(k) - 96 : 0);
                }
            }
            CHECK.is("letter of none", x.letter(kind, names[kind].length, 0), -1);
            CHECK.is("letter of none", x.letter(kind, -1, 0), -1);
            CHECK.is("letter 6", x.letter(kind, 0, 6), -1);
            CHECK.is("letter -1", x.letter(kind, 0, -1), -1);
        }
        CHECK.is("letter kind 3", x.letter(3, 0, 0), -1);
        CHECK.is("letter kind -1", x.letter(-1, 0, 0), -1);
    }

    private static void stairsAndFar() {
        FireDrill x = CHECK.house(HOUSE, 11);
        int[][] due = {{1, 0, 4, 0}, {2, 1, 1, 0}};
        for (int stair = 0; stair < 2; stair++) {
            for (int what = 0; what < 4; what++) {
                CHECK.is("stair(" + stair + ", " + what + ")", x.stair(stair, what), due[stair][what]);
            }
            CHECK.is("stair what 4", x.stair(stair, 4), -1);
            CHECK.is("stair what -1", x.stair(stair, -1), -1);
        }
        CHECK.is("stair 2", x.stair(2, 0), -1);
        CHECK.is("stair -1", x.stair(-1, 0), -1);
        int[] far = {0, 1, 2, -1, -1};
        for (int room = 0; room < far.length; room++) {
            CHECK.is("far(" + room + ")", x.far(room), far[room]);
        }
        CHECK.is("far(-1)", x.far(-1), -1);
        x.shut(0, 1);
        CHECK.is("stair shut", x.stair(0, 3), 1);
        CHECK.is("far(0) shut", x.far(0), 0);
        CHECK.is("far(1) shut", x.far(1), -1);
        CHECK.is("far(2) shut", x.far(2), -1);
        x.shut(0, 0);
        CHECK.is("far(2)", x.far(2), 2);

        FireDrill ring = CHECK.house("room a;room b;room c;room d;room e;stair e to d wide 1;stair d to c wide 1;"
            + "stair c to b wide 1;stair b to a wide 1;stair e to a wide 1;", 10);
        CHECK.is("far(4) of a ring", ring.far(4), 1);
        CHECK.is("far(3) of a ring", ring.far(3), 2);
        CHECK.is("far(2) of a ring", ring.far(2), 2);
        ring.shut(4, 1);
        CHECK.is("far(4) of a ring cut", ring.far(4), 4);
    }

    private static void sectionsAndClerks() {
        FireDrill x = CHECK.house(HOUSE, 11);
        CHECK.is("section(0, 0)", x.section(0, 0), 20);
        CHECK.is("section(1, 0)", x.section(1, 0), 0);
        CHECK.is("section(0, 1)", x.section(0, 1), 5);
        CHECK.is("section(1, 1)", x.section(1, 1), 2);
        CHECK.is("section(0, 2)", x.section(0, 2), -1);
        CHECK.is("section(0, -1)", x.section(0, -1), -1);
        CHECK.is("section(2, 0)", x.section(2, 0), -1);
        CHECK.is("section(-1, 0)", x.section(-1, 0), -1);
        int[][] due = {{2, 0, 3, 9, 0}, {0, 1, 1, 0, 0}, {3, 0, 2, 5, 0}};
        for (int clerk = 0; clerk < 3; clerk++) {
            for (int what = 0; what < 5; what++) {
                CHECK.is("clerk(" + clerk + ", " + what + ")", x.clerk(clerk, what), due[clerk][what]);
            }
            CHECK.is("clerk what 5", x.clerk(clerk, 5), -1);
            CHECK.is("clerk what -1", x.clerk(clerk, -1), -1);
        }
        CHECK.is("clerk 3", x.clerk(3, 0), -1);
        CHECK.is("clerk -1", x.clerk(-1, 0), -1);

        FireDrill y = CHECK.house("room a;part p post 0;part q post 9;clerk x in a of p pace 1 bag 0;"
            + "clerk y in a of p pace 1 bag 0;clerk z in a of q pace 1 bag 0;clerk w in a of p pace 1 bag 0;", 7);
        CHECK.is("drills(4)", y.drills(4), 12);
        int[][] signed = {{-1, 4, 0, 4}, {4, -1, 0, 4}, {0, 0, -1, 0}, {4, 4, 0, -1}};
        for (int one = 0; one < 4; one++) {
            for (int other = 0; other < 4; other++) {
                CHECK.is("signed(" + one + ", " + other + ")", y.signed(one, other), signed[one][other]);
            }
            CHECK.is("clerk(" + one + ", 4)", y.clerk(one, 4), one == 2 ? 0 : 8);
        }
        CHECK.is("signed(0, 4)", y.signed(0, 4), -1);
        CHECK.is("signed(4, 0)", y.signed(4, 0), -1);
        CHECK.is("signed(-1, 0)", y.signed(-1, 0), -1);
        CHECK.is("has(6)", y.has(6), 12);
    }

    private static void allAsAtFirst() {
        FireDrill x = CHECK.house(HOUSE, 11);
        x.shut(0, 1);
        x.post(0, 3);
        x.drills(5);
        x.seed(77);
        x.chance(1);
        Check.tape(x, 0, 99);
        x.see();
        CHECK.is("has(7)", x.has(7), 1);
        x.undo();
        x.undo();
        x.undo();
        x.undo();
        x.undo();
        x.shut(1, 1);
        Check.tape(x, HOUSE);
        CHECK.is("house() again", x.house(), 11);
        for (int what = 4; what <= 8; what++) {
            CHECK.is("has(" + what + ") as at first", x.has(what), 0);
        }
        CHECK.is("stair(1, 3) as at first", x.stair(1, 3), 0);
        CHECK.is("section(0, 0) as at first", x.section(0, 0), 20);
        CHECK.is("undo() of none", x.undo(), false);
        CHECK.is("status(4): refusals are still counted", x.status(4), 2);

        // The seed stays: the same draws as without a new house between.
        FireDrill one = smoky();
        FireDrill two = smoky();
        one.seed(5);
        two.seed(5);
        one.chance(3);
        two.chance(3);
        Check.tape(two, SMOKY);
        two.house();
        for (int k = 0; k < 10; k++) {
            CHECK.is("chance(1) " + k, two.chance(1), one.chance(1));
        }
    }

    private static final String SMOKY = "room a;room b;stair a to b wide 1;smoke 50;";

    private static FireDrill smoky() {
        return CHECK.house(SMOKY, 4);
    }


    private static void allStays() {
        FireDrill x = CHECK.house(HOUSE, 11);
        x.post(0, 3);
        x.drills(2);
        Check.tape(x, 0, 0);
        x.see();
        Check.tape(x, "room a; room b; part c post 1; clerk d in a of c pace 1 bag 1; turns all; dear 5; smoke 101;");
        CHECK.is("house() with a fault", x.house(), -1);
        CHECK.is("fault(0)", x.fault(0), 2);
        int[] due = {4, 2, 2, 3, 2, 0, 2, 1, 2};
        for (int what = 0; what < due.length; what++) {
            CHECK.is("has(" + what + ") stays", x.has(what), due[what]);
        }
        CHECK.is("section(0, 0) stays", x.section(0, 0), 3);
        CHECK.is("letter stays", x.letter(0, 0, 0), 'l' - 96);
        CHECK.is("back stays", x.back(1), -1);
        CHECK.is("undo() stays", x.undo(), true);
        Check.tape(x, "room a;");
        CHECK.is("house()", x.house(), 1);
        CHECK.is("fault(0) of the latest", x.fault(0), 0);
        CHECK.is("fault(1) of the latest", x.fault(1), -1);
        CHECK.is("fault(2)", x.fault(2), -1);
        CHECK.is("fault(-1)", x.fault(-1), -1);
    }

    private static void limits() {
        StringBuilder most = new StringBuilder();
        String rooms = "abcdefgh";
        for (int k = 0; k < 8; k++) {
            most.append("room ").append(rooms.charAt(k)).append(';');
        }
        for (int k = 0; k < 7; k++) {
            most.append("stair ").append(rooms.charAt(k)).append(" to ").append(rooms.charAt(k + 1)).append(" wide 1;");
        }
        most.append("stair a to c wide 4;stair c to e wide 2;stair e to g wide 3;");
        for (int k = 0; k < 5; k++) {
            most.append("part p").append((char) ('a' + k)).append(" post ").append(5 * k).append(';');
        }
        for (int k = 0; k < 8; k++) {
            most.append("clerk c").append((char) ('a' + k)).append(" in a of pa pace 1 bag ").append(k).append(';');
        }
        FireDrill x = CHECK.house(most.toString(), 31);
        CHECK.is("has(0)", x.has(0), 8);
        CHECK.is("has(1)", x.has(1), 10);
        CHECK.is("has(2)", x.has(2), 5);
        CHECK.is("has(3)", x.has(3), 8);
        CHECK.is("far(7)", x.far(7), 4);
        CHECK.is("section(0, 1)", x.section(0, 1), 255);
        CHECK.is("drills(30)", x.drills(30), 30 * 28);
        CHECK.is("has(6)", x.has(6), 30 * 28);
        CHECK.is("signed(6, 7)", x.signed(6, 7), 30);
        CHECK.house("hears 1;".repeat(80), 80);
        CHECK.house("hears 1;".repeat(80) + " \n", 80);
        // The longest text, all of it one formula.
        String sum = "dear " + "1+".repeat(796) + "10;";
        CHECK.is("length", sum.length(), 1600);
        CHECK.house(sum, 1);
    }

    /** Nothing of an earlier house shows in a later one. */
    private static void behindOthers() {
        FireDrill x = CHECK.house("room a;room b;room c;stair a to b wide 1;part p post 1;part q post 2;clerk x in a of p pace 1 bag 1;"
            + "clerk y in a of q pace 1 bag 1;turns all;dear 7;hears 9;signs 9;smoke 100;", 13);
        String plain = "room l;room m;stair m to l wide 1;part s post 0;part t post 4;clerk g in l of s pace 1 bag 0;"
            + "clerk h in l of s pace 1 bag 0;clerk i in l of t pace 1 bag 0;";
        for (int k = 0; k < 3; k++) {
            Check.tape(x, plain);
            CHECK.is("house() behind others", x.house(), 8);
            int[] due = {2, 1, 2, 3, 0, 0, 0, 0, 0};
            for (int what = 0; what < due.length; what++) {
                CHECK.is("has(" + what + ") behind others", x.has(what), due[what]);
            }
            CHECK.is("turns behind others", x.back(0), -1);
            CHECK.is("dear behind others", x.dear(0, 1), 18);
            CHECK.is("hears behind others", x.meets(0, 2), 0);
            CHECK.is("smoke behind others", x.chance(9), 0);
            CHECK.is("signed(0, 1) behind others", x.signed(0, 1), 9);
            CHECK.is("shut(0, 1) behind others", x.shut(0, 1), true);
            CHECK.is("post(0, 7) behind others", x.post(0, 7), true);
        }
        Check.tape(x, "room l;");
        CHECK.is("house()", x.house(), 1);
        CHECK.is("far(1)", x.far(1), -1);
        CHECK.is("wardens()", x.wardens(), 0);
        CHECK.is("signs()", x.signs(), 0);
    }

    private static void lastOneCounts() {
        String clerks = "room a;part p post 0;part q post 5;clerk x in a of p pace 1 bag 0;clerk y in a of q pace 1 bag 0;";
        CHECK.is("hears 3 without", CHECK.house(clerks, 5).meets(0, 1), 0);
        CHECK.is("the last hears", CHECK.house(clerks + "hears 1;hears 5;", 7).meets(0, 1), 9);
        CHECK.is("the last hears", CHECK.house(clerks + "hears 5;hears 4;", 7).meets(0, 1), 0);
        FireDrill x = CHECK.house(clerks + "hears 20;signs 9;", 7);
        CHECK.is("signs 9", x.signs(), 1);
        String late = "room a;room b;stair a to b wide 1;part p post 0;clerk x in b of p pace 1 bag 0;"
            + "clerk y in b of p pace 1 bag 0;";
        CHECK.is("signs 9 of 8 minutes", CHECK.house(late + "signs 1;signs 9;", 8).signs(), 0);
        CHECK.is("signs 8 of 8 minutes", CHECK.house(late + "signs 9;signs 8;", 8).signs(), 1);
    }
}
