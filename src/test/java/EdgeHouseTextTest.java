/** Promise 4 and the limits of part I, bound by bound: how much a house's text may hold, and what a house changes. */
public final class EdgeHouseTextTest {
    private static final Check CHECK = new Check("EdgeHouseTextTest");
    /** It becomes 1250496027, which draws 19539000 modulo 100. */
    private static final int DRAWS_ZERO = 42;
    private static final String MANY = Texts.rooms(8) + Texts.stairs(10) + Texts.parts(0, 5, 10, 15, 20)
        + Texts.clerks(1, 0, 1, 2, 3, 4, 5, 6, 7);

    public static void main(String[] args) {
        noStatements();
        eightyStatements();
        an81stWhateverStandsThere();
        eightRooms();
        tenStairs();
        fiveSections();
        eightClerks();
        oneTurnsAndOneDear();
        oneTooManyWhateverFollows();
        firstRoomIsTheLawn();
        stairsOfUnlikeRooms();
        numbersAtTheirBounds();
        numbersReadAsTold();
        lastOneCounts();
        withoutThem();
        faultLeavesAll();
        faultTakesTheTape();
        houseMakesAllAsAtFirst();
        houseBehindHouses();
        houseLeavesTheSeed();
        houseTakesTheTape();
        CHECK.finish();
    }

    // I: "{ STATEMENT ; } (80 at most)"; 5 "an 81st STATEMENT (whatever stands there), at its first byte"

    private static void noStatements() {
        CHECK.house("", 0);
        CHECK.house(" ", 0);
        CHECK.house("\n\n \n", 0);
        FireDrill x = CHECK.house(Texts.SMALL, Texts.SMALL_STATEMENTS);
        CHECK.is("house() of nothing behind a house", x.house(), 0);
        for (int what = 0; what <= 8; what++) {
            CHECK.is("has(" + what + ")", x.has(what), 0);
        }
        CHECK.is("far(0)", x.far(0), -1);
    }

    private static void eightyStatements() {
        CHECK.house("signs 1;", 1);
        CHECK.house("signs 1;".repeat(79), 79);
        CHECK.house("signs 1;".repeat(80), 80);
        CHECK.house("signs 1;".repeat(80) + "\n \n ", 80);
        CHECK.house("hears 1;".repeat(80), 80);
        CHECK.house("smoke 1;".repeat(80), 80);
        CHECK.house(MANY + "smoke 1;".repeat(49), 80);
        CHECK.behind("signs 1;".repeat(80), "signs 1;", 5, 0);
        CHECK.behind(MANY + "smoke 1;".repeat(49), "\n smoke 1;", 5, 2);
    }

    private static void an81stWhateverStandsThere() {
        String[] rests = {"hears 1;", "room a;", "nonsense", "x", "5", "99999", ";", ";;", "(", "#", "\t", "\r", "\u0000", "\u00ff", "A", "roo"};
        for (String rest : rests) {
            CHECK.behind("hears 1;".repeat(80), rest, 5, 0);
            CHECK.behind("hears 1;".repeat(80), " \n" + rest, 5, 2);
        }
        // The 80th is no such one: there its own fault is told.
        CHECK.behind("hears 1;".repeat(79), "nonsense", 1, 0);
        CHECK.behind("hears 1;".repeat(79), ";", 1, 0);
        CHECK.behind("hears 1;".repeat(79), "smoke 101;hears 1;hears 1;", 2, 6);
        CHECK.behind("hears 1;".repeat(79), "hears 1", 1, 7);
    }

    // I: "8 ROOMS", "10 STAIRS", "5 SECTIONS", "8 CLERKS"; 5 "one too many of a kind .. at its first byte"

    private static void eightRooms() {
        CHECK.is("has(0) of seven", CHECK.house(Texts.rooms(7), 7).has(0), 7);
        FireDrill x = CHECK.house(Texts.rooms(8), 8);
        CHECK.is("has(0) of eight", x.has(0), 8);
        CHECK.is("letter(0, 7, 1)", x.letter(0, 7, 1), 8);
        CHECK.is("letter(0, 8, 0)", x.letter(0, 8, 0), -1);
        CHECK.behind(Texts.rooms(8), "room ri;", 5, 0);
        CHECK.behind(Texts.rooms(8), "\nroom ri;", 5, 1);
        CHECK.behind(Texts.rooms(8) + "hears 1;", " room ri;", 5, 1);
    }

    private static void tenStairs() {
        CHECK.is("has(1) of nine", CHECK.house(Texts.rooms(8) + Texts.stairs(9), 17).has(1), 9);
        FireDrill x = CHECK.house(Texts.rooms(8) + Texts.stairs(10), 18);
        CHECK.is("has(1) of ten", x.has(1), 10);
        CHECK.is("stair(9, 0)", x.stair(9, 0), 1);
        CHECK.is("stair(9, 1)", x.stair(9, 1), 4);
        CHECK.is("stair(10, 0)", x.stair(10, 0), -1);
        CHECK.is("shut(9, 1)", x.shut(9, 1), true);
        CHECK.is("shut(10, 1)", x.shut(10, 1), false);
        CHECK.behind(Texts.rooms(8) + Texts.stairs(10), "stair rb to rf wide 1;", 5, 0);
        CHECK.behind(Texts.rooms(8) + Texts.stairs(10), "  stair rb to rf wide 1;", 5, 2);
    }

    private static void fiveSections() {
        CHECK.is("has(2) of four", CHECK.house(Texts.parts(1, 2, 3, 4), 4).has(2), 4);
        FireDrill x = CHECK.house(Texts.parts(1, 2, 3, 4, 5), 5);
        CHECK.is("has(2) of five", x.has(2), 5);
        CHECK.is("section(4, 0)", x.section(4, 0), 5);
        CHECK.is("section(5, 0)", x.section(5, 0), -1);
        CHECK.is("posts(4)", x.posts(4), 4);
        CHECK.is("posts(5)", x.posts(5), -1);
        CHECK.behind(Texts.parts(1, 2, 3, 4, 5), "part pf post 6;", 5, 0);
    }

    private static void eightClerks() {
        String head = Texts.rooms(1) + Texts.parts(0);
        CHECK.is("has(3) of seven", CHECK.house(head + Texts.clerks(1, 0, 0, 0, 0, 0, 0, 0), 9).has(3), 7);
        String eight = head + Texts.clerks(1, 0, 0, 0, 0, 0, 0, 0, 0);
        FireDrill x = CHECK.house(eight, 10);
        CHECK.is("has(3) of eight", x.has(3), 8);
        CHECK.is("section(0, 1) of eight", x.section(0, 1), 255);
        CHECK.is("out(7)", x.out(7), -1);
        CHECK.is("out(8)", x.out(8), -2);
        CHECK.is("drills(30): 28 pairs", x.drills(30), 840);
        CHECK.is("signed(6, 7)", x.signed(6, 7), 30);
        CHECK.behind(eight, "clerk ci in ra of pa pace 1 bag 1;", 5, 0);
    }

    // I: "turns TEST, dear SUM (one each)"; 5 "(a second turns, dear, too)"

    private static void oneTurnsAndOneDear() {
        CHECK.house("turns all;dear 1;", 2);
        CHECK.house("dear 1;turns all;", 2);
        CHECK.behind("turns all;", "turns all;", 5, 0);
        CHECK.behind("turns all;dear 1;", " turns all;", 5, 1);
        CHECK.behind("dear 1;", "dear 1;", 5, 0);
        CHECK.behind("dear 1;turns all;hears 1;", "\ndear 1;", 5, 1);
    }

    private static void oneTooManyWhateverFollows() {
        String[] rests = {"", " ", ";", " ra;", " room;", " abcdefg;", " 5;", "#", "5"};
        for (String rest : rests) {
            CHECK.behind(Texts.rooms(8), "room" + rest, 5, 0);
            CHECK.behind(MANY, "stair" + rest, 5, 0);
            CHECK.behind(MANY, "part" + rest, 5, 0);
            CHECK.behind(MANY, "clerk" + rest, 5, 0);
            CHECK.behind("turns all;", "turns" + rest, 5, 0);
            CHECK.behind("dear 1;", "dear" + rest, 5, 0);
        }
        // A longer word is another one.
        CHECK.behind(Texts.rooms(8), "rooms a;", 1, 0);
        CHECK.behind(Texts.rooms(8), "roo a;", 1, 0);
        // A statement that is at fault is not told: the fault is its own.
        CHECK.behind(Texts.rooms(7), "room ra;room rh;room ri;", 3, 5);
    }

    // I: "the first one is the LAWN"

    private static void firstRoomIsTheLawn() {
        FireDrill x = CHECK.house("part p post 0;room b;clerk c in b of p pace 1 bag 0;room a;clerk d in a of p pace 1 bag 0;", 5);
        CHECK.is("far(0)", x.far(0), 0);
        CHECK.is("far(1)", x.far(1), -1);
        CHECK.is("out(0): his room is the first", x.out(0), -1);
        CHECK.is("out(1)", x.out(1), 99);
    }

    // I: "two unlike ROOMS, not told in either order already"; 3 "(the same ROOM, a STAIR told already: at the second)"

    private static void stairsOfUnlikeRooms() {
        String three = "room a;room b;room c;";
        FireDrill x = CHECK.house(three + "stair a to b wide 1;stair c to a wide 2;stair b to c wide 3;", 6);
        CHECK.is("stair(1, 0): as told", x.stair(1, 0), 2);
        CHECK.is("stair(1, 1): as told", x.stair(1, 1), 0);
        CHECK.behind(three, "stair a to a wide 1;", 3, 11);
        CHECK.behind(three, "stair c  to\nc wide 1;", 3, 12);
        CHECK.behind(three + "stair a to b wide 1;", "stair a to b wide 1;", 3, 11);
        CHECK.behind(three + "stair a to b wide 1;", "stair b to a wide 1;", 3, 11);
        CHECK.behind(three + "stair c to b wide 1;stair a to b wide 1;", "stair b to c wide 1;", 3, 11);
        CHECK.behind(three + "stair a to b wide 1;", "stair a to b", 3, 11);
        CHECK.behind(three, "stair a to", 1, 10);
    }

    // I: "1 .. 4", "0 .. 20", "1 .. 3", "0 .. 9", "0 .. 20", "1 .. 9", "0 .. 100"; 2 "a number that can't be, at it"

    private static void numbersAtTheirBounds() {
        bounds(Texts.ROOMS + "stair a to b wide ", ";", 1, 4);
        bounds("part p post ", ";", 0, 20);
        bounds(Texts.PARTS + "clerk c in a of p pace ", " bag 0;", 1, 3);
        bounds(Texts.PARTS + "clerk c in a of p pace 1 bag ", ";", 0, 9);
        bounds("hears ", ";", 0, 20);
        bounds("signs ", ";", 1, 9);
        bounds("smoke ", ";", 0, 100);
    }

    private static void bounds(String head, String rest, int least, int most) {
        int statements = (int) (head + rest).chars().filter(c -> c == ';').count();
        for (int n = 0; n <= most + 2; n++) {
            number(head, Integer.toString(n), rest, n >= least && n <= most ? statements : -1);
            number(head, String.format("%04d", n), rest, n >= least && n <= most ? statements : -1);
        }
        number(head, "0000", rest, least == 0 ? statements : -1);
        number(head, "1000", rest, -1);
        number(head, "9999", rest, -1);
        CHECK.behind(head, "-1" + rest, 1, 0);
        CHECK.behind(head, "+1" + rest, 1, 0);
        CHECK.behind(head, "00001" + rest, 1, 4);
        CHECK.behind(head, "10000" + rest, 1, 4);
        CHECK.behind(head, "999999" + rest, 1, 4);
        CHECK.behind(head, rest.trim(), 1, 0);
        CHECK.behind(head, "", 1, 0);
        // The number is at fault ahead of what follows it.
        CHECK.behind(head, "9999", 2, 0);
        CHECK.behind(head, "9999x", 2, 0);
    }

    private static void number(String head, String number, String rest, int statements) {
        if (statements >= 0) {
            CHECK.house(head + number + rest, statements);
        } else {
            CHECK.behind(head, number + rest, 2, 0);
        }
    }

    private static void numbersReadAsTold() {
        for (int wide = 1; wide <= 4; wide++) {
            CHECK.is("stair(0, 2)", CHECK.house(Texts.ROOMS + "stair a to b wide " + wide + ";", 3).stair(0, 2), wide);
        }
        for (int post = 0; post <= 20; post++) {
            CHECK.is("section(0, 0)", CHECK.house("part p post " + post + ";", 1).section(0, 0), post);
        }
        for (int bag = 0; bag <= 9; bag++) {
            int pace = 1 + bag % 3;
            FireDrill x = CHECK.house(Texts.PARTS + "clerk c in a of p pace " + pace + " bag " + bag + ";", 3);
            CHECK.is("clerk(0, 2)", x.clerk(0, 2), pace);
            CHECK.is("clerk(0, 3)", x.clerk(0, 3), bag);
        }
        CHECK.is("post 0007", CHECK.house("part p post 0007;", 1).section(0, 0), 7);
    }

    // I: "the last one of each counts (3, 2, 0 without)"

    private static String apart(int post) {
        return Texts.rooms(1) + Texts.parts(0, post) + Texts.onLawn(0, 1);
    }

    /** Two clerks, one on the lawn, one who comes in the minute told: they meet in all minutes from then on. */
    private static String late(int minute) {
        return Texts.rooms(minute + 2) + Texts.way(minute + 1, 1) + Texts.parts(0) + Texts.clerks(1, 0, minute + 1);
    }

    private static int lateStatements(int minute) {
        return 2 * minute + 6;
    }

    private static void lastOneCounts() {
        CHECK.is("hears 0, then 9", CHECK.house(apart(9) + "hears 0;hears 9;", 7).meets(0, 1), 9);
        CHECK.is("hears 9, then 8", CHECK.house(apart(9) + "hears 9;hears 8;", 7).meets(0, 1), 0);
        CHECK.is("hears 20, then 0", CHECK.house("hears 20;" + apart(1) + "hears 0;", 7).meets(0, 1), 0);
        CHECK.is("signs 9, then 8, of 8 minutes", CHECK.house(late(1) + "signs 9;signs 8;", lateStatements(1) + 2).signs(), 1);
        CHECK.is("signs 8, then 9, of 8 minutes", CHECK.house(late(1) + "signs 8;signs 9;", lateStatements(1) + 2).signs(), 0);
        String stair = Texts.rooms(2) + Texts.way(1, 1);
        CHECK.is("smoke 0, then 100", CHECK.house(stair + "smoke 0;smoke 100;", 5).chance(9), 9);
        CHECK.is("smoke 100, then 0", CHECK.house(stair + "smoke 100;smoke 0;", 5).chance(9), 0);
    }

    private static void withoutThem() {
        CHECK.is("hears 3 without: 3 apart", CHECK.house(apart(3), 5).meets(0, 1), 9);
        CHECK.is("hears 3 without: 4 apart", CHECK.house(apart(4), 5).meets(0, 1), 0);
        String late = Texts.rooms(8) + Texts.way(7, 1) + Texts.parts(0) + Texts.clerks(1, 7, 7, 7);
        // They come in minutes 6, 7 and 8.
        FireDrill x = CHECK.house(late, 19);
        CHECK.is("meets(0, 1)", x.meets(0, 1), 2);
        CHECK.is("meets(1, 2)", x.meets(1, 2), 1);
        CHECK.is("signs 2 without: one pair met twice", x.signs(), 1);
        CHECK.is("signs 1", CHECK.house(late + "signs 1;", 20).signs(), 3);
        // The first draw is 0: not below 0, but below 1.
        FireDrill none = CHECK.house(Texts.rooms(2) + Texts.way(1, 1), 3);
        none.seed(DRAWS_ZERO);
        CHECK.is("smoke 0 without", none.chance(30), 0);
        FireDrill least = CHECK.house(Texts.rooms(2) + Texts.way(1, 1) + "smoke 1;", 4);
        least.seed(DRAWS_ZERO);
        CHECK.is("smoke 1", least.chance(1), 1);
        CHECK.is("without turns never", CHECK.house(apart(0), 5).back(0), -1);
        CHECK.is("without dear it is long", CHECK.house(apart(0), 5).dear(0, 1), 18);
    }

    // 4: "NONE, refused (1), with a FAULT (all stays)"

    private static void faultLeavesAll() {
        String other = "room m;room n;room o;stair n to m wide 4;part s post 9;clerk u in n of s pace 3 bag 9;turns all;dear 9;"
            + "hears 0;signs 9;smoke 100;";
        String[] faults = {"x", "hears 21;", "room m;", "(((((((", "turns all;", "roo", "room", "hears 1;".repeat(70)};
        for (String fault : faults) {
            CHECK.refused("house() with " + fault, Texts::used, 1, x -> take(x, other + fault), -1);
        }
        CHECK.refused("house() with a fault at its first byte", Texts::used, 1, x -> take(x, "#"), -1);
        CHECK.refused("house() with a fault in its formula", Texts::used, 1, x -> take(x, "dear (((((((1"), -1);
        CHECK.refused("house() with a fault in its test", Texts::used, 1, x -> take(x, "turns all and not"), -1);
        CHECK.refused("house() with a fault ahead of any", FireDrill::new, 1, x -> take(x, other + "x"), -1);
        CHECK.is("status(1) counts each", twice(), 2);
    }

    private static int take(FireDrill x, String text) {
        Check.tape(x, text);
        return x.house();
    }

    private static int twice() {
        FireDrill x = new FireDrill();
        take(x, "x");
        take(x, "x");
        return x.status(1);
    }

    private static void faultTakesTheTape() {
        FireDrill x = new FireDrill();
        CHECK.is("house()", take(x, "x"), -1);
        CHECK.is("end(1) behind a fault", x.end(1), false);
        CHECK.is("feed behind a fault", x.feed(0, 0, 0, 0, 0), 20);
    }

    // 4: "Without one all is as at first, nothing is SEEN or can be undone; the seed stays."

    private static void houseMakesAllAsAtFirst() {
        FireDrill x = Texts.used();
        FireDrill fresh = CHECK.house(Texts.SMALL, Texts.SMALL_STATEMENTS);
        CHECK.is("has(4) used", x.has(4), 5);
        CHECK.is("has(5) used", x.has(5), 1);
        CHECK.is("has(7) used", x.has(7), 1);
        CHECK.is("has(8) used", x.has(8), 4);
        CHECK.is("house()", take(x, Texts.SMALL), Texts.SMALL_STATEMENTS);
        // The latest image is no part of the house: both write theirs anew.
        x.image();
        fresh.image();
        CHECK.same("a house behind a house", x, fresh);
        CHECK.is("undo()", x.undo(), false);
        CHECK.is("status(4)", x.status(4), 1);
    }

    /** Nothing of an earlier house shows, whether it was larger, the same or at fault. */
    private static void houseBehindHouses() {
        FireDrill x = new FireDrill();
        String other = MANY + "turns all;dear 7;hears 0;signs 9;smoke 100;";
        String plain = Texts.rooms(3) + Texts.way(2, 1) + Texts.parts(0, 3) + Texts.onLawn(0, 1) + Texts.clerk(2, 2, 0, 1, 0);
        for (int round = 0; round < 2; round++) {
            CHECK.is("house(), the largest", take(x, other), 36);
            for (int stair = 0; stair < 10; stair++) {
                x.shut(stair, 1);
            }
            x.post(0, 9);
            CHECK.is("house() at fault", take(x, other + "x"), -1);
            CHECK.is("house(), a lesser one", take(x, plain), 10);
            CHECK.is("fault(0)", x.fault(0), 0);
            FireDrill fresh = CHECK.house(plain, 10);
            if (round == 1) {
                x.image();
                fresh.image();
                CHECK.same("a house behind a larger one", x, fresh);
            }
            CHECK.is("back(0)", x.back(0), -1);
            CHECK.is("dear(0, 1)", x.dear(0, 1), 18);
            CHECK.is("signs()", x.signs(), 3);
            CHECK.is("chance(9)", x.chance(9), 0);
            CHECK.is("has(6)", x.has(6), 27);
            x.shut(0, 1);
            CHECK.is("house(), the same", take(x, plain), 10);
            CHECK.is("far(2)", x.far(2), 2);
        }
    }

    private static void houseLeavesTheSeed() {
        FireDrill x = CHECK.house(Texts.SMALL, Texts.SMALL_STATEMENTS);
        FireDrill twin = CHECK.house(Texts.SMALL, Texts.SMALL_STATEMENTS);
        x.seed(2147483647);
        twin.seed(2147483647);
        CHECK.is("chance(5)", x.chance(5), twin.chance(5));
        take(x, Texts.SMALL);
        for (int k = 0; k < 12; k++) {
            CHECK.is("chance(1) " + k + " behind a house", x.chance(1), twin.chance(1));
        }
    }

    // 4: "The tape (it goes) is THE HOUSE: how many STATEMENTS"

    private static void houseTakesTheTape() {
        FireDrill x = new FireDrill();
        CHECK.is("house()", take(x, "room a;"), 1);
        CHECK.is("end(1)", x.end(1), false);
        CHECK.is("feed", x.feed(0x68656172, 0x7320313b, 0x68656172, 0x7320313b, 0x20202020), 20);
        CHECK.is("house()", x.house(), 2);
        CHECK.is("has(0): the earlier house is gone", x.has(0), 0);
    }
}
