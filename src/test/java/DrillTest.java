/** Promises 13 to 18: out, back, where, meets, empty, signs. */
public final class DrillTest {
    private static final Check CHECK = new Check("DrillTest");

    public static void main(String[] args) {
        refused();
        waitsAtFullStairs();
        firstRoomByNumbers();
        paceAndShutStairs();
        onTheLawnAtFirst();
        turnsByMinute();
        crowdJustThen();
        turnsByDrill();
        arithmetic();
        hearsAndSigns();
        empties();
        CHECK.finish();
    }

    private static void row(String what, FireDrill x, int clerk, int... rooms) {
        for (int minute = 0; minute < 9; minute++) {
            int due = rooms[Math.min(minute, rooms.length - 1)];
            CHECK.is(what + " where(" + clerk + ", " + minute + ")", x.where(clerk, minute), due);
        }
    }

    private static void refused() {
        FireDrill x = CHECK.house("room a;room b;part p post 1;clerk c in b of p pace 1 bag 1;clerk d in a of p pace 1 bag 1;", 5);
        CHECK.is("out(2)", x.out(2), -2);
        CHECK.is("out(-1)", x.out(-1), -2);
        CHECK.is("out(0)", x.out(0), 99);
        CHECK.is("out(1)", x.out(1), -1);
        CHECK.is("back(2)", x.back(2), -1);
        CHECK.is("back(-1)", x.back(-1), -1);
        CHECK.is("where(2, 0)", x.where(2, 0), -1);
        CHECK.is("where(-1, 0)", x.where(-1, 0), -1);
        CHECK.is("where(0, 9)", x.where(0, 9), -1);
        CHECK.is("where(0, -1)", x.where(0, -1), -1);
        CHECK.is("where(0, 8)", x.where(0, 8), 1);
        CHECK.is("meets(0, 0)", x.meets(0, 0), -1);
        CHECK.is("meets(0, 2)", x.meets(0, 2), -1);
        CHECK.is("meets(-1, 0)", x.meets(-1, 0), -1);
        CHECK.is("meets(0, 1)", x.meets(0, 1), 0);
        CHECK.is("empty()", x.empty(), 99);
        for (int what = 0; what <= 5; what++) {
            CHECK.is("status: questions are not counted", x.status(what), 0);
        }
    }

    /** Four in one room behind a stair of two: by numbers, two a minute. */
    private static void waitsAtFullStairs() {
        FireDrill x = CHECK.house("room l;room h;room t;stair h to l wide 2;stair t to h wide 3;part p post 1;"
            + "clerk a in t of p pace 3 bag 0;clerk b in t of p pace 1 bag 0;clerk c in h of p pace 1 bag 0;"
            + "clerk d in t of p pace 3 bag 0;clerk e in t of p pace 3 bag 0;", 11);
        row("waits", x, 0, 0);
        row("waits", x, 1, 1, 0);
        row("waits", x, 2, 0);
        row("waits", x, 3, 1, 0);
        // The upper stair took three in minute 0, so the last one is still above.
        row("waits", x, 4, 2, 1, 0);
        int[] outs = {0, 1, 0, 1, 2};
        for (int clerk = 0; clerk < 5; clerk++) {
            CHECK.is("out(" + clerk + ")", x.out(clerk), outs[clerk]);
        }
        CHECK.is("empty()", x.empty(), 2);
        CHECK.is("meets(0, 2)", x.meets(0, 2), 9);
        CHECK.is("meets(0, 1)", x.meets(0, 1), 8);
        CHECK.is("meets(4, 0)", x.meets(4, 0), 7);
    }

    private static void firstRoomByNumbers() {
        // From d to c or b: b is first by numbers though its stair is told last.
        String house = "room l;room b;room c;room d;stair d to c wide 1;stair c to l wide 1;stair b to l wide 1;"
            + "stair d to b wide 1;part p post 1;clerk x in d of p pace 1 bag 0;clerk y in d of p pace 1 bag 0;"
            + "clerk z in d of p pace 1 bag 0;";
        FireDrill x = CHECK.house(house, 12);
        row("by numbers", x, 0, 1, 0);
        row("by numbers, full", x, 1, 2, 0);
        row("by numbers, all full", x, 2, 3, 1, 0);
        x.shut(3, 1);
        row("by numbers, shut", x, 0, 2, 0);
        row("by numbers, shut", x, 1, 3, 2, 0);
        FireDrill w = CHECK.house("room l;room b;room c;room d;stair d to b wide 1;stair d to c wide 1;stair c to l wide 1;"
            + "stair b to l wide 1;part p post 1;clerk x in d of p pace 1 bag 0;clerk y in d of p pace 1 bag 0;", 11);
        row("by numbers, told first", w, 0, 1, 0);
        row("by numbers, told first", w, 1, 2, 0);
        // A way round that is not nearer is not gone: room c is as far as b.
        FireDrill y = CHECK.house("room l;room b;room c;stair b to l wide 1;stair c to l wide 1;stair b to c wide 4;"
            + "part p post 1;clerk x in b of p pace 3 bag 0;clerk y in b of p pace 3 bag 0;", 9);
        row("not nearer", y, 0, 0);
        row("not nearer", y, 1, 1, 0);
    }

    private static void paceAndShutStairs() {
        String house = "room l;room a;room b;room c;room d;stair a to l wide 1;stair b to a wide 1;stair c to b wide 1;"
            + "stair d to c wide 1;part p post 1;clerk x in d of p pace 2 bag 0;clerk y in d of p pace 1 bag 0;";
        FireDrill x = CHECK.house(house, 12);
        row("pace 2", x, 0, 2, 0);
        row("pace 1", x, 1, 4, 3, 2, 1, 0);
        CHECK.is("out(1)", x.out(1), 4);
        x.shut(1, 1);
        row("not reached", x, 0, 4);
        CHECK.is("out(0)", x.out(0), 99);
        CHECK.is("empty()", x.empty(), 99);
        CHECK.is("back(0)", x.back(0), -1);
        x.shut(1, 0);
        CHECK.is("out(0)", x.out(0), 1);
    }

    private static void onTheLawnAtFirst() {
        FireDrill x = CHECK.house("room l;room a;part p post 1;clerk x in l of p pace 1 bag 0;clerk y in l of p pace 1 bag 0;turns all;", 6);
        CHECK.is("out(0) ahead of all", x.out(0), -1);
        CHECK.is("back(0)", x.back(0), 0);
        row("turned back to the lawn as told", x, 0, 0);
        CHECK.is("meets(0, 1)", x.meets(0, 1), 0);
        CHECK.is("empty() ahead of all", x.empty(), -1);
        CHECK.is("signs()", x.signs(), 0);
        FireDrill y = CHECK.house("room l;room a;stair a to l wide 1;part p post 1;clerk x in l of p pace 1 bag 0;"
            + "clerk y in a of p pace 1 bag 0;turns minute=0;", 7);
        CHECK.is("empty() never: one turned back ahead of the other", y.empty(), 99);
        CHECK.is("out(1)", y.out(1), 0);
        CHECK.is("back(1): who comes in a minute does not turn in it", y.back(1), -1);
    }

    private static void turnsByMinute() {
        String house = "room l;room a;stair a to l wide 2;part p post 1;clerk x in a of p pace 1 bag 4;"
            + "clerk y in a of p pace 2 bag 2;";
        FireDrill x = CHECK.house(house + "turns minute>bag;", 7);
        CHECK.is("back(0)", x.back(0), 5);
        CHECK.is("back(1)", x.back(1), 3);
        row("turns back", x, 0, 0, 0, 0, 0, 0, 1);
        row("turns back", x, 1, 0, 0, 0, 1);
        CHECK.is("meets(0, 1)", x.meets(0, 1), 3);
        CHECK.is("empty()", x.empty(), 0);
        CHECK.is("out(0)", x.out(0), 0);
        FireDrill y = CHECK.house(house + "turns minute=pace and not[bag=2 or bag=3];", 7);
        CHECK.is("back(0)", y.back(0), 1);
        CHECK.is("back(1)", y.back(1), -1);
        CHECK.is("without turns", CHECK.house(house, 6).back(0), -1);
        // and binds closer than or.
        FireDrill z = CHECK.house(house + "turns bag=4 or bag=2 and minute=8;", 7);
        CHECK.is("back(0)", z.back(0), 1);
        CHECK.is("back(1)", z.back(1), 8);
        FireDrill w = CHECK.house(house + "turns minute=8 and bag=2 or bag=4;", 7);
        CHECK.is("back(0)", w.back(0), 1);
        CHECK.is("back(1)", w.back(1), 8);
        FireDrill v = CHECK.house(house + "turns not bag=4 and all;", 7);
        CHECK.is("not takes one fact", v.back(0), -1);
        CHECK.is("not takes one fact", v.back(1), 1);
    }

    private static void crowdJustThen() {
        // Three on the lawn: the first sees two others and goes, the second then sees one.
        FireDrill x = CHECK.house("room l;part p post 1;clerk x in l of p pace 1 bag 0;clerk y in l of p pace 1 bag 0;"
            + "clerk z in l of p pace 1 bag 0;turns crowd=2;", 6);
        CHECK.is("back(0)", x.back(0), 0);
        CHECK.is("back(1)", x.back(1), -1);
        CHECK.is("back(2)", x.back(2), -1);
        CHECK.is("meets(1, 2)", x.meets(1, 2), 9);
        CHECK.is("meets(0, 1)", x.meets(0, 1), 0);
        // Who comes in the same minute counts for those behind him alone.
        String house = "room l;room a;stair a to l wide 4;part p post 1;clerk x in l of p pace 1 bag 0;"
            + "clerk y in a of p pace 1 bag 0;clerk z in l of p pace 1 bag 0;";
        FireDrill y = CHECK.house(house + "turns crowd=2 and minute=0;", 8);
        CHECK.is("back(0)", y.back(0), -1);
        CHECK.is("back(2)", y.back(2), 0);
        FireDrill z = CHECK.house(house + "turns crowd=1;", 8);
        CHECK.is("back(0)", z.back(0), 0);
        CHECK.is("back(1)", z.back(1), -1);
        CHECK.is("back(2)", z.back(2), 0);
    }

    private static void turnsByDrill() {
        FireDrill x = CHECK.house("room l;part p post 1;clerk x in l of p pace 1 bag 0;clerk y in l of p pace 1 bag 0;"
            + "turns drill=2 or drill=3 and minute=1;", 5);
        CHECK.is("back(0) of drill 0", x.back(0), -1);
        CHECK.is("drills(2)", x.drills(2), 2);
        CHECK.is("back(0) of drill 2", x.back(0), 0);
        CHECK.is("drills(1)", x.drills(1), 0);
        CHECK.is("back(0) of drill 3", x.back(0), 1);
        CHECK.is("meets(0, 1)", x.meets(0, 1), 1);
        CHECK.is("drills(1)", x.drills(1), 0);
        CHECK.is("back(0) of drill 4", x.back(0), -1);
    }

    /** The one on the lawn turns back at once just if the fact holds. */
    private static void holds(String fact, boolean due) {
        FireDrill x = CHECK.house("room l;part p post 1;clerk x in l of p pace 3 bag 7;turns " + fact + ";", 4);
        CHECK.is(fact, x.back(0), due ? 0 : -1);
    }

    private static void arithmetic() {
        holds("1+2*3=7", true);
        holds("(1+2)*3=9", true);
        holds("9-3-2=4", true);
        holds("8/2/2=2", true);
        holds("7/2*2=6", true);
        holds("2*7/2=7", true);
        holds("7/2=3", true);
        holds("(0-7)/2=0-4", true);
        holds("7/(0-2)=0-4", true);
        holds("(0-7)/(0-2)=3", true);
        holds("7/0=0", true);
        holds("(0-7)/0=0", true);
        holds("0/5=0", true);
        holds("9999*9999=9999*101", true);
        holds("9999*9999-1=9999*100+99", true);
        holds("9999*9999>9999*100+99", true);
        holds("9999*9999=9999*100+100", true);
        holds("9999*9999+1=9999*9999", true);
        holds("0-9999*9999-5+5=5-9999*9999", true);
        holds("0-9999*9999-1=0-9999*9999", true);
        holds("(0-9999)*9999=0-9999*9999", true);
        holds("9999*9999-9999*9999=0", true);
        holds("9999*9999/9999=100", true);
        holds("pace=3", true);
        holds("bag=7", true);
        holds("drill=0", true);
        holds("crowd=0", true);
        holds("min(pace,bag)=3", true);
        holds("max(pace,bag)=7", true);
        holds("min(0-1,1)+max(0-1,1)=0", true);
        holds("min(max(1,2),max(3,4))=2", true);
        holds("1<2", true);
        holds("2<2", false);
        holds("3>2", true);
        holds("2>2", false);
        holds("2=3", false);
        holds("0001=1", true);
        holds("all", true);
        holds("not all", false);
        holds("not 1<2", false);
        holds("not 2>1", false);
        holds("not 1=1", false);
        holds("1<2 and 2=2", true);
        holds("2>1 and 2=2", true);
        holds("not[1<2 and 2>1]", false);
        holds("not[1<2 or 2=1]", false);
        holds("not not all", true);
        holds("1=2 or 1=1", true);
        holds("1=2 or 1=3", false);
        holds("1=1 and 1=3", false);
        holds("1=1 or 1=1 and 1=2", true);
        holds("[1=1 or 1=1]and 1=2", false);
        holds("not[1=1 and 1=2]", true);
    }

    private static void hearsAndSigns() {
        String house = "room l;room a;stair a to l wide 1;part p post 4;part q post 8;part r post 0;"
            + "clerk x in l of p pace 1 bag 0;clerk y in a of q pace 1 bag 0;clerk z in a of r pace 1 bag 0;"
            + "clerk w in a of p pace 1 bag 0;";
        FireDrill x = CHECK.house(house + "hears 4;signs 7;", 12);
        CHECK.is("meets(0, 1) at 4", x.meets(0, 1), 9);
        CHECK.is("meets(1, 0)", x.meets(1, 0), 9);
        CHECK.is("meets(0, 2)", x.meets(0, 2), 8);
        CHECK.is("meets(1, 2) at 8", x.meets(1, 2), 0);
        CHECK.is("meets(0, 3) at 0", x.meets(0, 3), 7);
        CHECK.is("meets(1, 3)", x.meets(1, 3), 7);
        CHECK.is("signs()", x.signs(), 5);
        CHECK.is("signs 8", CHECK.house(house + "hears 4;signs 8;", 12).signs(), 2);
        CHECK.is("hears 3", CHECK.house(house + "hears 3;signs 7;", 12).signs(), 1);
        CHECK.is("hears 0", CHECK.house(house + "hears 0;", 11).signs(), 1);
        CHECK.is("hears 20", CHECK.house(house + "hears 20;", 11).signs(), 6);
    }

    private static void empties() {
        CHECK.is("no clerks", CHECK.house("room a;room b;", 2).empty(), -1);
        StringBuilder slow = new StringBuilder("room l;room a;stair a to l wide 1;part p post 0;");
        for (int k = 0; k < 8; k++) {
            slow.append("clerk c").append((char) ('a' + k)).append(" in a of p pace 1 bag 0;");
        }
        FireDrill x = CHECK.house(slow.toString(), 12);
        CHECK.is("eight by a stair of one", x.empty(), 7);
        CHECK.is("out(7)", x.out(7), 7);
        CHECK.is("meets(6, 7)", x.meets(6, 7), 2);
        CHECK.is("signs()", x.signs(), 28);
        // Two stairs one behind the other: the eighth is out in minute 8, the last there is.
        FireDrill y = CHECK.house(slow.toString().replace("stair a to l wide 1;", "room b;stair a to b wide 1;stair b to l wide 1;"), 14);
        CHECK.is("empty()", y.empty(), 8);
        CHECK.is("meets(6, 7)", y.meets(6, 7), 1);
        CHECK.is("signs(): seven pairs met but once", y.signs(), 21);
    }
}
