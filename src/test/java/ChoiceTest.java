/** Promises 19 to 25: posts, wider, wardens, dear, couples, with, later. */
public final class ChoiceTest {
    private static final Check CHECK = new Check("ChoiceTest");

    public static void main(String[] args) {
        posts();
        wider();
        wardens();
        dear();
        couples();
        couplesOfLikeWorth();
        later();
        CHECK.finish();
    }

    /** Clerks named by letters, all on the lawn, by the numbers of their sections. */
    private static String onLawn(int... sections) {
        StringBuilder text = new StringBuilder();
        for (int k = 0; k < sections.length; k++) {
            text.append("clerk c").append((char) ('a' + k)).append(" in l of p").append((char) ('a' + sections[k]));
            text.append(" pace 1 bag ").append(k).append(';');
        }
        return text.toString();
    }

    private static void postsAre(FireDrill x, int most, int... row) {
        CHECK.is("posts(-1)", x.posts(-1), most);
        for (int k = 0; k < row.length; k++) {
            CHECK.is("posts(" + k + ")", x.posts(k), row[k]);
        }
        CHECK.is("posts of none", x.posts(row.length), -1);
        CHECK.is("posts of none", x.posts(-2), -1);
    }

    private static void posts() {
        String parts = "room l;part pa post 0;part pb post 10;part pc post 1;part pd post 20;";
        // Two sections with clerks: the nearest posts are 0 and 1, those of sections 0 and 2.
        FireDrill x = CHECK.house(parts + onLawn(0, 1), 7);
        postsAre(x, 1, 0, 2, 1, 3);
        CHECK.is("signs() as it is", x.signs(), 0);
        FireDrill y = CHECK.house(parts + onLawn(1, 3), 7);
        postsAre(y, 1, 1, 0, 3, 2);
        // Posts as they are now.
        x.post(3, 12);
        x.post(0, 20);
        postsAre(x, 1, 1, 3, 0, 2);
        // None better than as they are: the first row is that in which each keeps its own.
        postsAre(CHECK.house(parts + onLawn(0, 0, 2), 8), 3, 0, 1, 2, 3);
        postsAre(CHECK.house(parts + onLawn(), 5), 0, 0, 1, 2, 3);
        postsAre(CHECK.house("room l;", 1), 0);
        // Like posts are still two: the first row wins.
        postsAre(CHECK.house("room l;part pa post 9;part pb post 5;part pc post 5;" + onLawn(0, 2), 6), 1, 1, 0, 2);
        // Five sections, a clerk each, hears 0: as many pairs as like posts, whoever has them.
        FireDrill z = CHECK.house("room l;hears 0;part pa post 1;part pb post 2;part pc post 3;part pd post 4;part pe post 1;"
            + onLawn(3, 4), 9);
        postsAre(z, 1, 1, 2, 3, 0, 4);
        // Just as many minutes as it takes to sign.
        FireDrill just = CHECK.house("room l;part pa post 0;part pb post 9;part pc post 1;signs 9;" + onLawn(0, 1), 7);
        postsAre(just, 1, 0, 2, 1);
        just.post(1, 0);
        CHECK.is("drills(2) of just as many minutes", just.drills(2), 2);
    }

    private static void wider() {
        String rooms = "room l;room a;room b;stair a to l wide 1;stair b to l wide 1;part p post 1;";
        String clerks = "clerk x in a of p pace 1 bag 0;clerk y in a of p pace 1 bag 0;"
            + "clerk z in b of p pace 1 bag 0;";
        FireDrill x = CHECK.house(rooms + clerks, 9);
        CHECK.is("wider()", x.wider(), 0);
        CHECK.is("empty()", x.empty(), 1);
        FireDrill y = CHECK.house(rooms + clerks + "clerk w in b of p pace 1 bag 0;", 10);
        CHECK.is("wider(): two would be needed", y.wider(), -1);
        FireDrill z = CHECK.house(rooms + clerks + "clerk w in b of p pace 1 bag 0;clerk v in b of p pace 1 bag 0;", 11);
        CHECK.is("wider()", z.wider(), 1);
        z.shut(1, 1);
        CHECK.is("wider() with one shut", z.wider(), -1);
        CHECK.is("nobody inside", CHECK.house(rooms + "clerk x in l of p pace 1 bag 0;", 7).wider(), -1);
        CHECK.is("no stairs", CHECK.house("room l;", 1).wider(), -1);
        // Of two stairs of one way each helps alike: the first.
        String way = "room l;room a;room b;stair b to a wide 1;stair a to l wide 1;part p post 1;"
            + "clerk x in b of p pace 1 bag 0;clerk y in a of p pace 1 bag 0;clerk z in a of p pace 1 bag 0;";
        CHECK.is("wider() of a way", CHECK.house(way, 9).wider(), 1);
        // Also one that is as wide as can be told, and from never to in time.
        StringBuilder wide = new StringBuilder("room l;room a;stair a to l wide 4;part p post 1;");
        for (int k = 0; k < 5; k++) {
            wide.append("clerk c").append((char) ('a' + k)).append(" in a of p pace 1 bag 0;");
        }
        CHECK.is("wider() than 4", CHECK.house(wide.toString(), 9).wider(), 0);
        // Four by a stair of two: three at once are no sooner out, four would be.
        CHECK.is("wider() by one alone", CHECK.house("room l;room a;stair a to l wide 2;part p post 1;clerk x in a of p pace 1 bag 0;"
            + "clerk y in a of p pace 1 bag 0;clerk z in a of p pace 1 bag 0;clerk w in a of p pace 1 bag 0;", 8).wider(), -1);
        // Two wait at the first stair, nobody at the second.
        FireDrill both = CHECK.house("room l;room a;room b;stair b to l wide 1;stair a to l wide 1;part p post 1;"
            + "clerk x in b of p pace 1 bag 0;clerk y in b of p pace 1 bag 0;clerk z in a of p pace 1 bag 0;", 9);
        CHECK.is("wider(): the first stays, the second is no sooner", both.wider(), 0);
        FireDrill never = CHECK.house(rooms + clerks + "turns minute=1;", 10);
        CHECK.is("empty() never", never.empty(), 99);
        CHECK.is("wider()", never.wider(), 0);
    }

    private static void wardens() {
        CHECK.is("none", CHECK.house("room a;room b;", 2).wardens(), 0);
        CHECK.is("also the lawn, the least bits", CHECK.house("room a;room b;stair b to a wide 1;", 3).wardens(), 1);
        String ring = "room a;room b;room c;room d;stair a to b wide 1;stair b to c wide 1;stair c to d wide 1;stair d to a wide 1;";
        FireDrill x = CHECK.house(ring, 8);
        CHECK.is("a ring of four", x.wardens(), 5);
        x.shut(0, 1);
        CHECK.is("a row of four: b c d a", x.wardens(), 5);
        x.shut(3, 1);
        CHECK.is("b c d", x.wardens(), 4);
        x.shut(1, 1);
        CHECK.is("c d", x.wardens(), 4);
        x.shut(2, 1);
        CHECK.is("all shut", x.wardens(), 0);
        FireDrill y = CHECK.house(ring.replace("stair d to a wide 1;", "stair d to b wide 1;"), 8);
        CHECK.is("b and one of c, d", y.wardens(), 6);
        FireDrill z = CHECK.house("room a;room b;room c;room d;room e;room f;room g;room h;stair h to a wide 1;stair h to b wide 1;"
            + "stair h to c wide 1;stair g to d wide 1;stair g to e wide 1;stair g to f wide 1;", 14);
        CHECK.is("two stars", z.wardens(), 192);
    }

    private static void dear() {
        String house = "room l;part pa post 0;part pb post 2;part pc post 9;" + onLawn(0, 1, 2);
        FireDrill plain = CHECK.house(house, 7);
        CHECK.is("dear is long without", plain.dear(0, 1), 18);
        CHECK.is("dear(0, 2)", plain.dear(0, 2), 0);
        FireDrill x = CHECK.house(house + "dear bag*10+other+pace*100+drill*1000;", 8);
        CHECK.is("dear(0, 1)", x.dear(0, 1), 211);
        CHECK.is("dear(1, 0)", x.dear(1, 0), 211);
        CHECK.is("dear(1, 2)", x.dear(1, 2), 233);
        x.drills(3);
        CHECK.is("dear(0, 1) behind drills", x.dear(0, 1), 6211);
        CHECK.is("dear(0, 0)", x.dear(0, 0), FireDrill.NOTHING);
        CHECK.is("dear(0, 3)", x.dear(0, 3), FireDrill.NOTHING);
        CHECK.is("dear(-1, 0)", x.dear(-1, 0), FireDrill.NOTHING);
        FireDrill big = CHECK.house(house + "dear 9999*9999;", 8);
        CHECK.is("dear: two of the greatest", big.dear(0, 1), 2000000);
        FireDrill less = CHECK.house(house + "dear bag-long-other*2;", 8);
        CHECK.is("dear below 0", less.dear(1, 0), -19);
        FireDrill inside = CHECK.house("room l;room a;part p post 0;clerk x in a of p pace 3 bag 0;clerk y in a of p pace 2 bag 0;"
            + "dear pace*100+drill;", 6);
        inside.drills(4);
        CHECK.is("dear of two who never come", inside.dear(0, 1), 508);
        FireDrill unlike = CHECK.house(house + "dear max(bag-other,0)*5;", 8);
        CHECK.is("dear of the one and the other", unlike.dear(0, 2), 10);
    }

    private static void couplesAre(FireDrill x, long most, int... with) {
        CHECK.is("couples()", x.couples(), most);
        for (int k = 0; k < with.length; k++) {
            CHECK.is("with(" + k + ")", x.with(k), with[k]);
        }
        CHECK.is("with none", x.with(with.length), -1);
        CHECK.is("with none", x.with(-1), -1);
    }

    private static void couples() {
        String part = "room l;room a;part pa post 0;part pb post 9;";
        // Bags 0 1 2 3, dear bag * other: 0 with 1 and 2 with 3 is 12, 1 with 2 is 4, 0 with 2 and 1 with 3 is 6.
        couplesAre(CHECK.house(part + onLawn(0, 0, 0, 0) + "dear bag*other;", 9), 12, -1, -1, 3, 2);
        // Only neighbours meet, and the dearest pair (1 with 2: 20) is less than the two others together (12 each).
        couplesAre(CHECK.house("room l;part pa post 0;part pb post 3;part pc post 6;part pd post 9;" + onLawn(0, 1, 2, 3)
            + "dear 10-(bag+other-3)*(bag+other-3);", 10), 24, 1, 0, 3, 2);
        // Who does not meet is in none, however dear.
        couplesAre(CHECK.house(part + onLawn(0, 1, 0, 1) + "dear 5;", 9), 20, 2, 3, 0, 1);
        couplesAre(CHECK.house(part + onLawn(0, 1) + "dear 5;", 7), 0, -1, -1);
        // Below 0 nobody is better alone.
        couplesAre(CHECK.house(part + onLawn(0, 0) + "dear 0-1;", 7), 0, -1, -1);
        couplesAre(CHECK.house("room l;", 1), 0);
        FireDrill unasked = CHECK.house(part + onLawn(0, 0), 6);
        CHECK.is("with(0) ahead of couples()", unasked.with(0), 1);
        // They meet but once, in minute 1: both turn back in the next.
        couplesAre(CHECK.house(part + "stair l to a wide 1;room b;stair a to b wide 1;" + onLawn(0)
            + "clerk w in b of pa pace 1 bag 0;turns minute=2;", 10), 2, 1, 0);
        couplesAre(CHECK.house(part + onLawn(0), 5), 0, -1);
        couplesAre(CHECK.house(part + onLawn(0, 0, 0, 0, 0, 0, 0, 0), 12), 72, 1, 0, 3, 2, 5, 4, 7, 6);
    }

    private static void couplesOfLikeWorth() {
        String part = "room l;part pa post 0;";
        // Three of like worth: none ahead of clerks, so 0 stays alone.
        couplesAre(CHECK.house(part + onLawn(0, 0, 0), 5), 18, -1, 2, 1);
        // Worth 0 adds nothing: nobody is with anybody.
        couplesAre(CHECK.house(part + onLawn(0, 0, 0, 0) + "dear 0;", 7), 0, -1, -1, -1, -1);
        couplesAre(CHECK.house(part + onLawn(0, 0, 0, 0) + "dear 1;", 7), 4, 1, 0, 3, 2);
        couplesAre(CHECK.house(part + onLawn(0, 0, 0, 0, 0), 7), 36, -1, 2, 1, 4, 3);
    }

    private static void later() {
        String house = "room l;part pa post 0;part pb post 9;" + onLawn(0, 0, 1) + "turns drill=1 or drill=4;";
        FireDrill x = CHECK.house(house, 7);
        int[] due = {0, 1, 1, 2, 3, 3, 4};
        for (int n = 0; n < due.length; n++) {
            CHECK.is("later(" + n + ")", x.later(n), due[n]);
        }
        CHECK.is("later(30)", x.later(30), 28);
        CHECK.is("later(31)", x.later(31), -1);
        CHECK.is("later(-1)", x.later(-1), -1);
        CHECK.is("has(4): all is as it was", x.has(4), 0);
        CHECK.is("has(6)", x.has(6), 0);
        CHECK.is("has(8)", x.has(8), 0);
        CHECK.is("drills(2)", x.drills(2), 1);
        CHECK.is("later(0)", x.later(0), 1);
        CHECK.is("later(3)", x.later(3), 3);
        CHECK.is("signed(0, 1)", x.signed(0, 1), 1);
        x.post(1, 0);
        CHECK.is("later(1)", x.later(1), 4);
    }
}
