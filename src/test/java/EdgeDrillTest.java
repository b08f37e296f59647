/** Part II and promises 13 to 18, bound by bound: one drill, minute by minute. */
public final class EdgeDrillTest {
    private static final Check CHECK = new Check("EdgeDrillTest");
    private static final int[] FAR_OFF = {Integer.MIN_VALUE, -100, -2, 9, 100, Integer.MAX_VALUE};

    public static void main(String[] args) {
        asManyAsWideGo();
        fullInThisMinuteAlone();
        fullForThoseOfAnotherPaceToo();
        noFurtherIfAllAreFull();
        firstByNumbersThatIsNotFull();
        firstByNumbersHoweverTold();
        neverToARoomNotNearer();
        paceFromOneToThree();
        lawnNotReached();
        lawnAheadOfAll();
        lastMinuteIsTheEighth();
        turnsAheadOfMinuteZero();
        turnsTheMinuteBehindHeCame();
        turnsInTheLastMinute();
        turnedBackComesNoMore();
        turnedBackIsNotInTheCrowd();
        crowdOfOthersJustThen();
        wordsOfTurns();
        noFurtherApartThanHears();
        signsAtItsBound();
        signsOnceInADrill();
        outAtItsBounds();
        outOfNoneSuch();
        backAtItsBounds();
        whereFromZeroToEight();
        meetsAtItsBounds();
        emptyAtItsBounds();
        signsFromNoneToAll();
        askingChangesNothing();
        CHECK.finish();
    }

    private static void outs(String what, FireDrill x, int... due) {
        for (int clerk = 0; clerk < due.length; clerk++) {
            CHECK.is(what + ": out(" + clerk + ")", x.out(clerk), due[clerk]);
        }
    }

    private static void row(String what, FireDrill x, int clerk, int... rooms) {
        for (int minute = 0; minute < 9; minute++) {
            int due = rooms[Math.min(minute, rooms.length - 1)];
            CHECK.is(what + ": where(" + clerk + ", " + minute + ")", x.where(clerk, minute), due);
        }
    }

    private static String inRoom(int stairs, int wide, int pace, int... rooms) {
        return Texts.rooms(stairs + 1) + Texts.way(stairs, wide) + Texts.parts(0) + Texts.clerks(pace, rooms);
    }

    // II: "as many CLERKS as wide go by a STAIR in a MINUTE, then it is full"

    private static void asManyAsWideGo() {
        for (int wide = 1; wide <= 4; wide++) {
            FireDrill x = CHECK.made(inRoom(1, wide, 1, 1, 1, 1, 1, 1, 1, 1, 1));
            for (int clerk = 0; clerk < 8; clerk++) {
                CHECK.is("wide " + wide + ": out(" + clerk + ")", x.out(clerk), clerk / wide);
            }
            CHECK.is("wide " + wide + ": empty()", x.empty(), 7 / wide);
        }
    }

    private static void fullInThisMinuteAlone() {
        FireDrill x = CHECK.made(inRoom(2, 1, 1, 2, 2, 2));
        row("first", x, 0, 1, 0);
        row("second", x, 1, 2, 1, 0);
        row("third", x, 2, 2, 2, 1, 0);
    }

    /** Each stair that a clerk goes in a minute takes of it, also the second and the third of one minute. */
    private static void fullForThoseOfAnotherPaceToo() {
        String text = Texts.rooms(4) + Texts.way(3, 1) + Texts.parts(0) + Texts.clerk(0, 3, 0, 3, 0) + Texts.clerk(1, 2, 0, 1, 0)
            + Texts.clerk(2, 1, 0, 1, 0);
        FireDrill x = CHECK.made(text);
        row("goes three", x, 0, 0);
        row("waits at the second", x, 1, 2, 1, 0);
        row("waits at the first", x, 2, 1, 0);
    }

    // II: "he goes no further in it, if all are full"

    private static void noFurtherIfAllAreFull() {
        String text = Texts.rooms(4) + Texts.way(3, 1) + Texts.parts(0) + Texts.clerk(0, 1, 0, 1, 0) + Texts.clerk(1, 3, 0, 3, 0);
        FireDrill x = CHECK.made(text);
        row("as far as room 1", x, 1, 1, 0);
        CHECK.is("out(0)", x.out(0), 0);
        CHECK.is("out(1)", x.out(1), 1);
    }

    // II: "of those the first by numbers to which a STAIR leads that is neither SHUT nor full in this MINUTE"

    private static void firstByNumbersThatIsNotFull() {
        // From the top, room 4, to rooms 3, 2, 1, told in that order.
        String text = Texts.rooms(5) + "stair re to rd wide 1;stair re to rc wide 1;stair re to rb wide 1;stair rb to ra wide 4;"
            + "stair rc to ra wide 4;stair rd to ra wide 4;" + Texts.parts(0) + Texts.clerks(1, 4, 4, 4, 4);
        FireDrill x = CHECK.made(text);
        row("first", x, 0, 1, 0);
        row("second", x, 1, 2, 0);
        row("third", x, 2, 3, 0);
        row("all full", x, 3, 4, 1, 0);
        x.shut(2, 1);
        row("first, one shut", x, 0, 2, 0);
        row("second, one shut", x, 1, 3, 0);
        row("all full, one shut", x, 2, 4, 2, 0);
        x.shut(4, 1);
        // Room 2 is now as far as the top and more: only room 3 is nearer.
        CHECK.is("far(2)", x.far(2), 3);
        row("first, two shut", x, 0, 3, 0);
        row("second, two shut", x, 1, 4, 3, 0);
    }

    private static void firstByNumbersHoweverTold() {
        String[] orders = {"bcd", "bdc", "cbd", "cdb", "dbc", "dcb"};
        for (String order : orders) {
            StringBuilder text = new StringBuilder(Texts.rooms(5) + Texts.stairs(3));
            for (char room : order.toCharArray()) {
                text.append("stair re to r").append(room).append(" wide 1;");
            }
            FireDrill x = CHECK.made(text + Texts.parts(0) + Texts.clerks(1, 4, 4, 4, 4));
            for (int clerk = 0; clerk < 4; clerk++) {
                CHECK.is(order + ": where(" + clerk + ", 0)", x.where(clerk, 0), clerk < 3 ? clerk + 1 : 4);
            }
        }
    }

    // II: "each to a ROOM nearer to the LAWN by one"

    private static void neverToARoomNotNearer() {
        String text = Texts.rooms(4) + "stair rb to ra wide 1;stair rc to ra wide 4;stair rb to rc wide 4;stair rb to rd wide 4;"
            + Texts.parts(0) + Texts.clerks(3, 1, 1, 3);
        FireDrill x = CHECK.made(text);
        row("goes", x, 0, 0);
        row("waits, though rc is free", x, 1, 1, 0);
        row("from rd by rb", x, 2, 1, 1, 0);
        // Both ends as far: nobody goes by it.
        x.shut(0, 1);
        CHECK.is("far(1) by rc", x.far(1), 2);
        row("by rc", x, 0, 0);
    }

    // II: "goes pace STAIRS, one after the other", "or when he is on the LAWN"

    private static void paceFromOneToThree() {
        for (int pace = 1; pace <= 3; pace++) {
            for (int far = 1; far <= 7; far++) {
                FireDrill x = CHECK.made(inRoom(far, 1, pace, far));
                CHECK.is("pace " + pace + " from " + far, x.out(0), (far - 1) / pace);
                for (int minute = 0; minute < 9; minute++) {
                    CHECK.is("where", x.where(0, minute), Math.max(0, far - pace * (minute + 1)));
                }
            }
        }
    }

    // II: "or from where he is the LAWN is not reached"

    private static void lawnNotReached() {
        FireDrill x = CHECK.made(inRoom(3, 4, 3, 3, 1));
        x.shut(0, 1);
        row("stays", x, 0, 3);
        row("stays", x, 1, 1);
        outs("not reached", x, 99, 99);
        CHECK.is("empty()", x.empty(), 99);
        x.shut(0, 0);
        x.shut(2, 1);
        row("stays", x, 0, 3);
        outs("one reached", x, 99, 0);
        FireDrill bare = CHECK.made(Texts.rooms(2) + Texts.parts(0) + Texts.clerks(3, 1));
        row("no stairs at all", bare, 0, 1);
    }

    // II: "(one whose ROOM is the LAWN is out)"

    private static void lawnAheadOfAll() {
        FireDrill x = CHECK.made(inRoom(1, 1, 1, 0, 0, 1));
        outs("on the lawn", x, -1, -1, 0);
        CHECK.is("meets(0, 1): from minute 0 on", x.meets(0, 1), 9);
        CHECK.is("meets(0, 2)", x.meets(0, 2), 9);
        row("on the lawn", x, 0, 0);
    }

    // II: "A DRILL has MINUTES 0 .. 8."

    private static void lastMinuteIsTheEighth() {
        FireDrill x = CHECK.made(inRoom(3, 1, 1, 3, 3, 3, 3, 3, 3, 3, 3));
        outs("one a minute", x, 2, 3, 4, 5, 6, 7, 8, 99);
        row("a minute too late", x, 7, 3, 3, 3, 3, 3, 3, 3, 2, 1);
        CHECK.is("empty()", x.empty(), 99);
        CHECK.is("meets(5, 6): behind minute 8 alone", x.meets(5, 6), 1);
        CHECK.is("meets(6, 7)", x.meets(6, 7), 0);
        FireDrill y = CHECK.made(inRoom(2, 1, 1, 2, 2, 2, 2, 2, 2, 2, 2));
        CHECK.is("out(7)", y.out(7), 8);
        CHECK.is("empty()", y.empty(), 8);
    }

    // II: "who stood on the LAWN behind the MINUTE ahead (ahead of MINUTE 0: whose ROOM it is)"

    private static void turnsAheadOfMinuteZero() {
        FireDrill x = CHECK.made(inRoom(1, 1, 1, 0, 1) + "turns minute=0;");
        CHECK.is("back(0): his room is the lawn", x.back(0), 0);
        CHECK.is("back(1): he comes in minute 0", x.back(1), -1);
        CHECK.is("meets(0, 1)", x.meets(0, 1), 0);
        CHECK.is("out(0): he was out ahead of all", x.out(0), -1);
        CHECK.is("out(1)", x.out(1), 0);
        CHECK.is("empty(): one turned back ahead of the other", x.empty(), 99);
    }

    private static void turnsTheMinuteBehindHeCame() {
        for (int far = 1; far <= 7; far++) {
            FireDrill x = CHECK.made(inRoom(far, 1, 1, far) + "turns all;");
            CHECK.is("out(0)", x.out(0), far - 1);
            CHECK.is("back(0)", x.back(0), far);
            for (int minute = 0; minute < 9; minute++) {
                int due = minute >= far ? far : far - 1 - minute;
                CHECK.is("where(0, " + minute + ")", x.where(0, minute), due);
            }
        }
    }

    private static void turnsInTheLastMinute() {
        FireDrill x = CHECK.made(inRoom(1, 2, 1, 1, 1) + "turns minute=8;");
        CHECK.is("back(0)", x.back(0), 8);
        CHECK.is("where(0, 7)", x.where(0, 7), 0);
        CHECK.is("where(0, 8)", x.where(0, 8), 1);
        CHECK.is("meets(0, 1): minutes 0 to 7", x.meets(0, 1), 8);
        CHECK.is("no minute 9", CHECK.made(inRoom(1, 2, 1, 1, 1) + "turns minute>8;").back(0), -1);
        // Who comes in minute 8 turns back no more.
        FireDrill late = CHECK.made(inRoom(2, 1, 1, 2, 2, 2, 2, 2, 2, 2, 2) + "turns all;");
        CHECK.is("out(7)", late.out(7), 8);
        CHECK.is("back(7)", late.back(7), -1);
        CHECK.is("back(6)", late.back(6), 8);
    }

    // II: "he is not on the LAWN any more, nor comes again in this DRILL"

    private static void turnedBackComesNoMore() {
        FireDrill x = CHECK.made(inRoom(1, 4, 3, 1, 1) + "turns minute=2;");
        row("turned back", x, 0, 0, 0, 1);
        CHECK.is("out(0)", x.out(0), 0);
        CHECK.is("meets(0, 1)", x.meets(0, 1), 2);
        CHECK.is("empty(): it was, behind minute 0", x.empty(), 0);
        // Neither does he take of a stair.
        FireDrill y = CHECK.made(Texts.rooms(3) + Texts.way(2, 1) + Texts.parts(0) + Texts.clerk(0, 1, 0, 1, 9) + Texts.clerk(1, 2, 0, 1, 0)
            + "turns bag=9;");
        CHECK.is("back(0)", y.back(0), 1);
        CHECK.is("out(1)", y.out(1), 1);
    }

    // I: "how many others stand on the LAWN just then"

    private static void turnedBackIsNotInTheCrowd() {
        String three = Texts.rooms(1) + Texts.parts(0) + Texts.clerks(1, 0, 0, 0);
        FireDrill x = CHECK.made(three + "turns crowd>1;");
        CHECK.is("back(0)", x.back(0), 0);
        CHECK.is("back(1): one other is left", x.back(1), -1);
        CHECK.is("back(2)", x.back(2), -1);
        FireDrill y = CHECK.made(three + "turns crowd=0 or minute=3 and crowd>0;");
        CHECK.is("back(0)", y.back(0), 3);
        CHECK.is("back(1)", y.back(1), 3);
        CHECK.is("back(2): nobody else is left", y.back(2), 3);
        FireDrill z = CHECK.made(three + "turns minute=3 and crowd>0;");
        CHECK.is("back(2): he stays alone", z.back(2), -1);
    }

    private static void crowdOfOthersJustThen() {
        for (int crowd = 0; crowd <= 8; crowd++) {
            FireDrill x = CHECK.made(Texts.rooms(1) + Texts.parts(0) + Texts.clerks(1, 0, 0, 0, 0, 0, 0, 0, 0) + "turns minute=0 and crowd=" + crowd + ";");
            CHECK.is("back(0) of seven others", x.back(0), crowd == 7 ? 0 : -1);
        }
        // Who comes in this minute, by a less number, stands there already; by a greater one not yet.
        FireDrill y = CHECK.made(inRoom(1, 4, 1, 1, 0, 1) + "turns minute=0 and crowd=1;");
        CHECK.is("back(1): the first came, the third not yet", y.back(1), 0);
        FireDrill alone = CHECK.made(Texts.rooms(1) + Texts.parts(0) + Texts.clerks(1, 0) + "turns crowd>0;");
        CHECK.is("he is no other", alone.back(0), -1);
    }

    // I: "Of a CLERK pace, what he carries; how many DRILLS were ahead; the MINUTE; .."

    private static void wordsOfTurns() {
        String two = Texts.rooms(1) + Texts.parts(0) + Texts.clerk(0, 0, 0, 2, 7) + Texts.clerk(1, 0, 0, 3, 9);
        String[] tests = {"pace=2", "pace=3", "bag=7", "bag=9", "minute=pace", "minute=bag-1", "drill=0", "drill=1", "crowd=1 and pace=3"};
        int[][] due = {{0, -1}, {-1, 0}, {0, -1}, {-1, 0}, {2, 3}, {6, 8}, {0, 0}, {-1, -1}, {-1, 0}};
        for (int k = 0; k < tests.length; k++) {
            FireDrill x = CHECK.made(two + "turns " + tests[k] + ";");
            CHECK.is(tests[k] + ": back(0)", x.back(0), due[k][0]);
            CHECK.is(tests[k] + ": back(1)", x.back(1), due[k][1]);
        }
        FireDrill y = CHECK.made(two + "turns drill=1;");
        y.drills(1);
        CHECK.is("drill=1 behind one: back(0)", y.back(0), 0);
    }

    // II: "their POSTS are no further apart than hears"

    private static void noFurtherApartThanHears() {
        for (int hears = 0; hears <= 20; hears++) {
            for (int apart = Math.max(0, hears - 1); apart <= Math.min(20, hears + 1); apart++) {
                int due = apart <= hears ? 9 : 0;
                FireDrill x = CHECK.made(Texts.rooms(1) + Texts.parts(0, apart) + Texts.onLawn(0, 1) + "hears " + hears + ";");
                CHECK.is("hears " + hears + ", apart " + apart, x.meets(0, 1), due);
                FireDrill y = CHECK.made(Texts.rooms(1) + Texts.parts(20, 20 - apart) + Texts.onLawn(0, 1) + "hears " + hears + ";");
                CHECK.is("hears " + hears + ", apart downwards " + apart, y.meets(0, 1), due);
            }
        }
        FireDrill x = CHECK.made(Texts.rooms(1) + Texts.parts(7) + Texts.onLawn(0, 0) + "hears 0;");
        CHECK.is("hears 0 within a section", x.meets(0, 1), 9);
    }

    // II: "They SIGN behind the MINUTE in which they have met signs MINUTES of this DRILL"

    private static void signsAtItsBound() {
        for (int far = 0; far <= 7; far++) {
            int minutes = far == 0 ? 9 : 10 - far;
            for (int signs = 1; signs <= 9; signs++) {
                FireDrill x = CHECK.made(Texts.rooms(8) + Texts.way(7, 1) + Texts.parts(0) + Texts.clerks(1, 0, far) + "signs " + signs + ";");
                CHECK.is("meets(0, 1) from " + far, x.meets(0, 1), minutes);
                CHECK.is("signs " + signs + " of " + minutes, x.signs(), signs <= minutes ? 1 : 0);
                CHECK.is("drills(1)", x.drills(1), signs <= minutes ? 1 : 0);
                CHECK.is("signed(0, 1)", x.signed(0, 1), signs <= minutes ? 1 : 0);
            }
        }
    }

    // II: "(once in it)"

    private static void signsOnceInADrill() {
        FireDrill x = CHECK.made(Texts.rooms(1) + Texts.parts(0) + Texts.onLawn(0, 0) + "signs 1;");
        CHECK.is("meets(0, 1)", x.meets(0, 1), 9);
        CHECK.is("signs()", x.signs(), 1);
        CHECK.is("drills(1)", x.drills(1), 1);
        CHECK.is("signed(0, 1)", x.signed(0, 1), 1);
        // The minutes of one drill do not count in the next.
        FireDrill y = CHECK.made(inRoom(1, 1, 1, 1, 1) + "signs 9;");
        CHECK.is("meets(0, 1)", y.meets(0, 1), 8);
        CHECK.is("drills(30)", y.drills(30), 0);
        CHECK.is("signed(0, 1)", y.signed(0, 1), 0);
    }

    // 13: "OUT of a CLERK; NONE (ahead of all), 99; -2 when there is none such."

    private static void outAtItsBounds() {
        FireDrill x = CHECK.made(inRoom(3, 1, 1, 3, 3, 3, 3, 3, 3, 3, 0));
        outs("bounds", x, 2, 3, 4, 5, 6, 7, 8, -1);
        CHECK.is("out(8)", x.out(8), -2);
        x.shut(2, 1);
        CHECK.is("out(0) not in this drill", x.out(0), 99);
        // It is when he first stands there, whether or not he turns back.
        FireDrill y = CHECK.made(inRoom(1, 1, 1, 1) + "turns minute>0;");
        CHECK.is("out(0)", y.out(0), 0);
    }

    private static void outOfNoneSuch() {
        FireDrill x = CHECK.made(inRoom(1, 1, 1, 1));
        CHECK.is("out(0)", x.out(0), 0);
        CHECK.is("out(1)", x.out(1), -2);
        CHECK.is("out(-1)", x.out(-1), -2);
        for (int clerk : FAR_OFF) {
            CHECK.is("out(" + clerk + ")", x.out(clerk), -2);
        }
    }

    // 14: "The MINUTE in which a CLERK turns back; NONE when he does not, or there is none such."

    private static void backAtItsBounds() {
        for (int minute = 0; minute <= 9; minute++) {
            FireDrill x = CHECK.made(Texts.rooms(1) + Texts.parts(0) + Texts.clerks(1, 0) + "turns minute=" + minute + ";");
            CHECK.is("back(0) in " + minute, x.back(0), minute <= 8 ? minute : -1);
            CHECK.is("back(1)", x.back(1), -1);
            CHECK.is("back(-1)", x.back(-1), -1);
        }
        FireDrill inside = CHECK.made(Texts.rooms(2) + Texts.parts(0) + Texts.clerks(1, 1) + "turns all;");
        CHECK.is("back(0) of one who never came", inside.back(0), -1);
        for (int clerk : FAR_OFF) {
            CHECK.is("back(" + clerk + ")", inside.back(clerk), -1);
        }
    }

    // 15: "Where a CLERK is behind a MINUTE (0 .. 8): his ROOM (turned back: the ROOM told for him); NONE when there are none such."

    private static void whereFromZeroToEight() {
        FireDrill x = CHECK.made(inRoom(2, 1, 1, 2) + "turns minute=8;");
        CHECK.is("where(0, -1)", x.where(0, -1), -1);
        CHECK.is("where(0, 0)", x.where(0, 0), 1);
        CHECK.is("where(0, 7)", x.where(0, 7), 0);
        CHECK.is("where(0, 8): the room told for him", x.where(0, 8), 2);
        CHECK.is("where(0, 9)", x.where(0, 9), -1);
        CHECK.is("where(1, 0)", x.where(1, 0), -1);
        CHECK.is("where(-1, 0)", x.where(-1, 0), -1);
        CHECK.is("where(1, 9)", x.where(1, 9), -1);
        for (int n : FAR_OFF) {
            CHECK.is("where(" + n + ", 0)", x.where(n, 0), -1);
            CHECK.is("where(0, " + n + ")", x.where(0, n), -1);
        }
        FireDrill lawn = CHECK.made(Texts.rooms(2) + Texts.parts(0) + Texts.clerks(1, 0) + "turns all;");
        CHECK.is("where of one told on the lawn who turned back", lawn.where(0, 8), 0);
    }

    // 16: "MINUTES in which two CLERKS MEET; NONE when there are none such, or they are one."

    private static void meetsAtItsBounds() {
        FireDrill x = CHECK.made(Texts.rooms(3) + "stair rb to ra wide 1;" + Texts.parts(0) + Texts.clerks(1, 0, 0, 1, 2));
        int[][] due = {{-1, 9, 9, 0}, {9, -1, 9, 0}, {9, 9, -1, 0}, {0, 0, 0, -1}};
        for (int one = 0; one < 4; one++) {
            for (int other = 0; other < 4; other++) {
                CHECK.is("meets(" + one + ", " + other + ")", x.meets(one, other), due[one][other]);
            }
            CHECK.is("meets(.., 4)", x.meets(one, 4), -1);
            CHECK.is("meets(4, ..)", x.meets(4, one), -1);
            CHECK.is("meets(.., -1)", x.meets(one, -1), -1);
            CHECK.is("meets(-1, ..)", x.meets(-1, one), -1);
            for (int other : FAR_OFF) {
                CHECK.is("meets(.., " + other + ")", x.meets(one, other), -1);
                CHECK.is("meets(" + other + ", ..)", x.meets(other, one), -1);
            }
        }
        CHECK.is("meets(4, 4)", x.meets(4, 4), -1);
    }

    // 17: "EMPTY: behind which MINUTE (NONE: ahead of all); 99 when it is not."

    private static void emptyAtItsBounds() {
        CHECK.is("without clerks", CHECK.made(Texts.rooms(8) + Texts.stairs(10)).empty(), -1);
        CHECK.is("all on the lawn", CHECK.made(inRoom(1, 1, 1, 0, 0)).empty(), -1);
        CHECK.is("all on the lawn, who turn back", CHECK.made(inRoom(1, 1, 1, 0, 0) + "turns all;").empty(), -1);
        CHECK.is("behind minute 0", CHECK.made(inRoom(1, 2, 1, 1, 1, 0)).empty(), 0);
        CHECK.is("behind minute 8", CHECK.made(inRoom(2, 1, 1, 2, 2, 2, 2, 2, 2, 2, 2)).empty(), 8);
        CHECK.is("behind minute 9 no more", CHECK.made(inRoom(3, 1, 1, 3, 3, 3, 3, 3, 3, 3, 3)).empty(), 99);
        CHECK.is("one not reached", CHECK.made(Texts.rooms(2) + Texts.parts(0) + Texts.clerks(1, 0, 1)).empty(), 99);
        // The first minute counts, also if one turns back behind it; who turned back ahead of it is inside.
        CHECK.is("turned back behind it", CHECK.made(inRoom(1, 1, 1, 1, 1) + "turns minute=2;").empty(), 1);
        CHECK.is("turned back in it", CHECK.made(inRoom(1, 1, 1, 1, 1) + "turns minute=1;").empty(), 99);
    }

    // 18: "How many pairs SIGN."

    private static void signsFromNoneToAll() {
        CHECK.is("without clerks", CHECK.made(Texts.rooms(1)).signs(), 0);
        CHECK.is("of one", CHECK.made(inRoom(1, 1, 1, 0)).signs(), 0);
        CHECK.is("of two", CHECK.made(inRoom(1, 1, 1, 0, 0)).signs(), 1);
        CHECK.is("of eight", CHECK.made(inRoom(1, 1, 1, 0, 0, 0, 0, 0, 0, 0, 0)).signs(), 28);
        CHECK.is("of eight who all turn back", CHECK.made(inRoom(1, 1, 1, 0, 0, 0, 0, 0, 0, 0, 0) + "turns all;").signs(), 0);
    }

    private static void askingChangesNothing() {
        CHECK.refused("out(3)", Texts::used, -1, x -> x.out(3), -2);
        CHECK.refused("back(3)", Texts::used, -1, x -> x.back(3), -1);
        CHECK.refused("where(0, 9)", Texts::used, -1, x -> x.where(0, 9), -1);
        CHECK.refused("meets(0, 3)", Texts::used, -1, x -> x.meets(0, 3), -1);
        CHECK.refused("empty(), no act", Texts::used, -1, FireDrill::empty, Texts.used().empty());
        CHECK.refused("signs(), no act", Texts::used, -1, FireDrill::signs, Texts.used().signs());
    }
}
