/** Part III and promises 19 to 25, bound by bound: posts, wider, wardens, dear, couples, with, later. */
public final class EdgeChoiceTest {
    private static final Check CHECK = new Check("EdgeChoiceTest");
    private static final int[] FAR_OFF = {Integer.MIN_VALUE, -100, 9, 100, Integer.MAX_VALUE};

    public static void main(String[] args) {
        postsOfFewSections();
        postsOfLikeRowsTheFirst();
        postsEachToOne();
        postsOfJustAsManyMinutes();
        postsOfAsManyAsCanBe();
        postsAsTheyAreNow();
        postsOfNoneSuch();
        widerOnlyIfSooner();
        widerSoonestOfAll();
        widerOfLikeOnesTheFirst();
        widerNotShut();
        widerByOneMore();
        widerOfTen();
        wardensOfNoStairs();
        wardensOfLikeOnesTheLeastBits();
        wardensOfStairsNotShut();
        wardensOfTheLawnToo();
        dearOfTheOneAndTheOther();
        dearByThisDrill();
        wordsOfDear();
        dearOfNoneSuchOrOne();
        couplesOfFew();
        couplesWhoMeet();
        couplesEachInOneAtMost();
        couplesBelowZeroAndOfZero();
        couplesOfLikeOnesTheFirstRow();
        withOfNoneSuch();
        laterFromZeroToThirty();
        laterNotBeyond999();
        laterSigned9999AtMost();
        laterWithoutDraws();
        choosingChangesNothing();
        CHECK.finish();
    }

    private static String lawn(int... posts) {
        return Texts.rooms(1) + Texts.parts(posts);
    }

    private static void postsAre(String what, FireDrill x, int most, int... row) {
        CHECK.is(what + ": posts(-1)", x.posts(-1), most);
        for (int k = 0; k < row.length; k++) {
            CHECK.is(what + ": posts(" + k + ")", x.posts(k), row[k]);
        }
        CHECK.is(what + ": posts of one more", x.posts(row.length), -1);
    }

    // 19: "how many pairs SIGN (section NONE), whose POST a SECTION gets. NONE when there is none such."

    private static void postsOfFewSections() {
        postsAre("no sections", CHECK.made("room a;"), 0);
        postsAre("one section", CHECK.made(lawn(7) + Texts.onLawn(0, 0)), 1, 0);
        postsAre("one section without clerks", CHECK.made(lawn(7)), 0, 0);
        postsAre("two sections, far apart whoever has them", CHECK.made(lawn(0, 20) + Texts.onLawn(0, 1)), 0, 0, 1);
        postsAre("five sections without clerks", CHECK.made(lawn(1, 2, 3, 4, 5)), 0, 0, 1, 2, 3, 4);
    }

    // III: "of like ones the first row (SECTION by SECTION the number of the one whose POST it was)"

    private static void postsOfLikeRowsTheFirst() {
        // Sections 0 and 1 have clerks: only the posts 10 and 11 are near, those of sections 3 and 4.
        postsAre("the near ones", CHECK.made(lawn(0, 5, 15, 10, 11) + Texts.onLawn(0, 1) + "hears 1;"), 1, 3, 4, 0, 1, 2);
        postsAre("as they are", CHECK.made(lawn(10, 11, 0, 5, 15) + Texts.onLawn(0, 1) + "hears 1;"), 1, 0, 1, 2, 3, 4);
        postsAre("the other way round", CHECK.made(lawn(10, 0, 11) + Texts.onLawn(0, 1) + "hears 1;"), 1, 0, 2, 1);
        postsAre("the last two", CHECK.made(lawn(0, 5, 15, 10, 11) + Texts.onLawn(4, 3) + "hears 1;"), 1, 0, 1, 2, 3, 4);
        // Like posts are two, of the numbers that they have.
        postsAre("like posts", CHECK.made(lawn(9, 4, 4) + Texts.onLawn(0, 1) + "hears 0;"), 1, 1, 2, 0);
    }

    private static void postsEachToOne() {
        // Three sections with clerks, two of whose posts are alike: one pair at most.
        postsAre("two alike", CHECK.made(lawn(4, 4, 9) + Texts.onLawn(0, 1, 2) + "hears 0;"), 1, 0, 1, 2);
        // Two clerks of one section count more: they sign wherever it stands.
        postsAre("two of one", CHECK.made(lawn(0, 9, 1) + Texts.onLawn(0, 0, 1) + "hears 1;"), 3, 0, 2, 1);
        postsAre("the greater ones together", CHECK.made(lawn(0, 1, 9) + Texts.onLawn(0, 1, 1, 2, 2) + "hears 1;"), 6, 2, 0, 1);
    }

    private static void postsOfJustAsManyMinutes() {
        String text = Texts.rooms(2) + Texts.way(1, 1) + Texts.parts(0, 9, 1) + Texts.clerk(0, 1, 0, 1, 0) + Texts.clerk(1, 1, 1, 1, 0) + "hears 1;";
        // They come in minutes 0 and 1: eight minutes together, wherever they stand.
        postsAre("eight of eight", CHECK.made(text + "signs 8;"), 1, 0, 2, 1);
        postsAre("eight of nine", CHECK.made(text + "signs 9;"), 0, 0, 1, 2);
    }

    private static void postsOfAsManyAsCanBe() {
        FireDrill x = CHECK.made(lawn(0, 4, 8, 12, 16) + Texts.onLawn(0, 1, 2, 3, 4, 0, 1, 2) + "hears 4;");
        // Three sections of two, two of one: those of one at the ends.
        postsAre("eight clerks of five sections", x, 3 + 2 + 4 + 4 + 2, 1, 2, 3, 0, 4);
        FireDrill y = CHECK.made(lawn(0, 4, 8, 12, 16) + Texts.onLawn(4, 4, 4, 4, 0, 0, 0, 0) + "hears 4;");
        postsAre("eight clerks of the outer two", y, 28, 0, 2, 3, 4, 1);
    }

    private static void postsAsTheyAreNow() {
        FireDrill x = CHECK.made(lawn(0, 9, 20) + Texts.onLawn(0, 1) + "hears 2;");
        postsAre("at first", x, 0, 0, 1, 2);
        x.post(2, 11);
        postsAre("behind an act", x, 1, 1, 2, 0);
        x.undo();
        postsAre("undone", x, 0, 0, 1, 2);
        x.post(2, 2);
        postsAre("behind another", x, 1, 0, 2, 1);
        CHECK.is("signs() as they are", x.signs(), 0);
        CHECK.is("section(1, 0): nothing moved", x.section(1, 0), 9);
    }

    private static void postsOfNoneSuch() {
        FireDrill x = CHECK.made(lawn(1, 2, 3, 4, 5) + Texts.onLawn(0, 1));
        CHECK.is("posts(4)", x.posts(4), 4);
        CHECK.is("posts(5)", x.posts(5), -1);
        CHECK.is("posts(-2)", x.posts(-2), -1);
        for (int section : FAR_OFF) {
            CHECK.is("posts(" + section + ")", x.posts(section), -1);
        }
    }

    // III: "WIDER is the STAIR (not SHUT) by which, as wide by one more, the house is EMPTY soonest, if sooner than without"; 20

    private static String inRoom(int wide, int clerks) {
        return Texts.rooms(2) + Texts.way(1, wide) + Texts.parts(0) + Texts.clerks(1, new int[clerks]).replace("in ra", "in rb");
    }

    private static void widerOnlyIfSooner() {
        CHECK.is("no stairs", CHECK.made("room a;").wider(), -1);
        CHECK.is("nobody", CHECK.made(inRoom(1, 0)).wider(), -1);
        CHECK.is("one by a stair of one", CHECK.made(inRoom(1, 1)).wider(), -1);
        CHECK.is("two by a stair of one", CHECK.made(inRoom(1, 2)).wider(), 0);
        CHECK.is("three by a stair of two", CHECK.made(inRoom(2, 3)).wider(), 0);
        CHECK.is("four by a stair of two: three at once are no sooner", CHECK.made(inRoom(2, 4)).wider(), -1);
        CHECK.is("five by a stair of two", CHECK.made(inRoom(2, 5)).wider(), 0);
        CHECK.is("all on the lawn", CHECK.made(Texts.rooms(2) + Texts.way(1, 1) + Texts.parts(0) + Texts.clerks(1, 0, 0)).wider(), -1);
        CHECK.is("not reached either way", CHECK.made(Texts.rooms(3) + Texts.way(1, 1) + Texts.parts(0) + Texts.clerks(1, 1, 1, 2)).wider(), -1);
        // The eighth would be out in minute 9: one wider stair of three narrow ones is not enough, but of one it is.
        String late = Texts.rooms(4) + Texts.way(3, 1) + Texts.parts(0) + Texts.clerks(1, 3, 3, 3, 3, 3, 3, 3, 3);
        CHECK.is("never without", CHECK.made(late).empty(), 99);
        CHECK.is("three narrow ones", CHECK.made(late).wider(), -1);
        String upper = late.replace("ra wide 1", "ra wide 2").replace("rb wide 1", "rb wide 2");
        CHECK.is("never without", CHECK.made(upper).empty(), 99);
        CHECK.is("one narrow one", CHECK.made(upper).wider(), 2);
        FireDrill turned = CHECK.made(inRoom(1, 2) + "turns minute=1;");
        CHECK.is("never without: the first turned back", turned.empty(), 99);
        CHECK.is("both at once with", turned.wider(), 0);
    }

    private static void widerSoonestOfAll() {
        String clerks = Texts.parts(0) + Texts.clerk(0, 3, 0, 3, 0) + Texts.clerk(1, 3, 0, 3, 0) + Texts.clerk(2, 3, 0, 3, 0)
            + Texts.clerk(3, 3, 0, 1, 0) + Texts.clerk(4, 3, 0, 2, 0);
        String stairs = "stair rb to ra wide 1;stair rc to rb wide 2;stair rd to rc wide 1;";
        CHECK.is("without", CHECK.made(Texts.rooms(4) + stairs + clerks).empty(), 6);
        CHECK.is("the first wider", CHECK.made(Texts.rooms(4) + stairs.replace("ra wide 1", "ra wide 2") + clerks).empty(), 5);
        CHECK.is("the second wider", CHECK.made(Texts.rooms(4) + stairs.replace("rb wide 2", "rb wide 3") + clerks).empty(), 6);
        CHECK.is("the third wider", CHECK.made(Texts.rooms(4) + stairs.replace("rc wide 1", "rc wide 2") + clerks).empty(), 4);
        CHECK.is("wider()", CHECK.made(Texts.rooms(4) + stairs + clerks).wider(), 2);
        String other = "stair rd to rc wide 1;stair rc to rb wide 2;stair rb to ra wide 1;";
        CHECK.is("wider(), the other way round", CHECK.made(Texts.rooms(4) + other + clerks).wider(), 0);
    }

    private static void widerOfLikeOnesTheFirst() {
        // Three above two ways of one each: either one wider lets the third go at once.
        String text = Texts.rooms(4) + "stair rb to ra wide 2;stair rc to ra wide 2;stair rd to rc wide 1;stair rd to rb wide 1;"
            + Texts.parts(0) + Texts.clerks(2, 3, 3, 3);
        FireDrill x = CHECK.made(text);
        CHECK.is("empty()", x.empty(), 1);
        CHECK.is("wider(): stairs 2 and 3 alike", x.wider(), 2);
        CHECK.is("stair 2 wider", CHECK.made(text.replace("rc wide 1", "rc wide 2")).empty(), 0);
        CHECK.is("stair 3 wider", CHECK.made(text.replace("rb wide 1", "rb wide 2")).empty(), 0);
    }

    private static void widerNotShut() {
        FireDrill x = CHECK.made(Texts.rooms(3) + "stair rb to ra wide 1;stair rc to ra wide 1;stair rc to rb wide 1;" + Texts.parts(0)
            + Texts.clerks(1, 2, 2));
        CHECK.is("wider()", x.wider(), 1);
        x.shut(1, 1);
        CHECK.is("empty() by the way round", x.empty(), 2);
        CHECK.is("wider(): both stairs of the way would be needed", x.wider(), -1);
        FireDrill y = CHECK.made(inRoom(1, 2));
        y.shut(0, 1);
        CHECK.is("the only one is shut", y.wider(), -1);
        y.shut(0, 0);
        CHECK.is("no more", y.wider(), 0);
    }

    private static void widerByOneMore() {
        CHECK.is("five by a stair of four", CHECK.made(inRoom(4, 5)).wider(), 0);
        CHECK.is("six by a stair of four", CHECK.made(inRoom(4, 6)).wider(), -1);
        CHECK.is("four by a stair of three", CHECK.made(inRoom(3, 4)).wider(), 0);
        CHECK.is("five by a stair of three", CHECK.made(inRoom(3, 5)).wider(), -1);
        FireDrill x = CHECK.made(inRoom(4, 5));
        x.wider();
        CHECK.is("stair(0, 2): none is widened", x.stair(0, 2), 4);
        CHECK.is("empty()", x.empty(), 1);
    }

    private static void widerOfTen() {
        String text = Texts.rooms(8) + Texts.way(7, 2) + "stair rh to ra wide 2;stair rg to ra wide 2;stair rf to ra wide 1;" + Texts.parts(0);
        CHECK.is("nobody", CHECK.made(text).wider(), -1);
        CHECK.is("two by the tenth", CHECK.made(text + Texts.clerks(1, 5, 5)).wider(), 9);
    }

    // III: "WARDENS are the fewest ROOMS (also the LAWN) of which each STAIR that is not SHUT touches one"; 21

    private static void wardensOfNoStairs() {
        CHECK.is("no rooms", new FireDrill().wardens(), 0);
        CHECK.is("a lawn", CHECK.made("room a;").wardens(), 0);
        CHECK.is("eight rooms without stairs", CHECK.made(Texts.rooms(8)).wardens(), 0);
    }

    private static void wardensOfLikeOnesTheLeastBits() {
        CHECK.is("one stair", CHECK.made(Texts.rooms(2) + Texts.way(1, 1)).wardens(), 1);
        CHECK.is("a way of seven: every other", CHECK.made(Texts.rooms(8) + Texts.way(7, 1)).wardens(), 85);
        CHECK.is("a way of six", CHECK.made(Texts.rooms(7) + Texts.way(6, 1)).wardens(), 42);
        CHECK.is("a ring of eight", CHECK.made(Texts.rooms(8) + Texts.way(7, 1) + "stair ra to rh wide 1;").wardens(), 85);
        CHECK.is("three of one another", CHECK.made(Texts.rooms(3) + Texts.way(2, 1) + "stair ra to rc wide 1;").wardens(), 3);
        CHECK.is("the last two rooms", CHECK.made(Texts.rooms(8) + "stair rg to rh wide 1;").wardens(), 64);
        // All ten among five rooms: four of them.
        StringBuilder all = new StringBuilder(Texts.rooms(5));
        for (char a = 'a'; a <= 'e'; a++) {
            for (char b = 'a'; b < a; b++) {
                all.append("stair r").append(a).append(" to r").append(b).append(" wide 1;");
            }
        }
        CHECK.is("all of five", CHECK.made(all.toString()).wardens(), 15);
    }

    private static void wardensOfStairsNotShut() {
        FireDrill x = CHECK.made(Texts.rooms(4) + Texts.way(3, 1));
        CHECK.is("a way of three", x.wardens(), 5);
        x.shut(0, 1);
        CHECK.is("its upper two", x.wardens(), 4);
        x.shut(1, 1);
        CHECK.is("its last", x.wardens(), 4);
        x.shut(2, 1);
        CHECK.is("all shut", x.wardens(), 0);
        x.shut(0, 0);
        CHECK.is("the first no more", x.wardens(), 1);
    }

    private static void wardensOfTheLawnToo() {
        CHECK.is("a star of seven", CHECK.made(Texts.rooms(8) + Texts.stairs(7)).wardens(), 1);
        CHECK.is("two stars", CHECK.made(Texts.rooms(8) + Texts.stairs(10)).wardens(), 3);
    }

    // III: "How DEAR two are is the SUM of dear of the one of less number, with the other one, plus that of the other one with him"; 22

    private static void dearOfTheOneAndTheOther() {
        FireDrill x = CHECK.made(lawn(0) + Texts.onLawn(0, 0, 0) + "dear bag*10-other;");
        CHECK.is("dear(0, 1)", x.dear(0, 1), -1 + 10);
        CHECK.is("dear(1, 0): the same", x.dear(1, 0), -1 + 10);
        CHECK.is("dear(1, 2)", x.dear(1, 2), 10 - 2 + 20 - 1);
        FireDrill most = CHECK.made(lawn(0) + Texts.onLawn(0, 0) + "dear 1000*1000;");
        CHECK.is("dear at the most", most.dear(0, 1), 2000000);
        FireDrill least = CHECK.made(lawn(0) + Texts.onLawn(0, 0) + "dear 0-1000*1000;");
        CHECK.is("dear at the least", least.dear(0, 1), -2000000);
        FireDrill both = CHECK.made(lawn(0) + Texts.onLawn(0, 0) + "dear 1000*1000*(1-2*bag);");
        CHECK.is("dear of one and of the other", both.dear(0, 1), 0);
    }

    private static void dearByThisDrill() {
        FireDrill x = CHECK.made(Texts.rooms(2) + Texts.way(1, 1) + Texts.parts(0, 9) + Texts.onLawn(0, 0, 1) + "clerk u in rb of pa pace 1 bag 9;");
        CHECK.is("nine minutes", x.dear(0, 1), 18);
        CHECK.is("too far apart", x.dear(0, 2), 0);
        CHECK.is("from minute 0 on", x.dear(0, 3), 18);
        x.shut(0, 1);
        CHECK.is("who does not come", x.dear(0, 3), 0);
        x.post(1, 3);
        CHECK.is("nearer now", x.dear(0, 2), 18);
        FireDrill y = CHECK.made(lawn(0) + Texts.onLawn(0, 0) + "dear drill;");
        CHECK.is("drill at first", y.dear(0, 1), 0);
        y.drills(30);
        CHECK.is("drill behind thirty", y.dear(0, 1), 60);
    }

    // I: "Of a CLERK pace, what he carries; how many DRILLS were ahead; .. of the other one what he carries; how many MINUTES they MEET"

    private static void wordsOfDear() {
        String two = Texts.rooms(2) + Texts.way(1, 2) + Texts.parts(0) + Texts.clerk(0, 1, 0, 2, 7) + Texts.clerk(1, 1, 0, 3, 9);
        // Of two words in one sum, whose they are shows: his own pace with his own bag, and with the other's.
        String[] sums = {"pace", "bag", "other", "long", "drill", "pace*100", "bag*other", "pace*10+other", "bag*100-other", "pace*bag",
            "pace*other", "pace*long*bag"};
        long[] due = {5, 16, 16, 18, 0, 500, 126, 50 + 16, 1600 - 16, 14 + 27, 18 + 21, 9 * (14 + 27)};
        for (int k = 0; k < sums.length; k++) {
            CHECK.is("dear " + sums[k], CHECK.made(two + "dear " + sums[k] + ";").dear(0, 1), due[k]);
        }
        // Also of two who are inside all the time.
        for (String sum : new String[] {"pace", "drill", "bag", "long"}) {
            FireDrill x = CHECK.made(two + "dear " + sum + ";");
            x.shut(0, 1);
            x.drills(4);
            CHECK.is("dear " + sum + " of two inside", x.dear(0, 1), sum.equals("pace") ? 5 : sum.equals("drill") ? 8 : sum.equals("bag") ? 16 : 0);
        }
    }

    private static void dearOfNoneSuchOrOne() {
        FireDrill x = CHECK.made(lawn(0) + Texts.onLawn(0, 0));
        long none = FireDrill.NOTHING;
        CHECK.is("dear(0, 1)", x.dear(0, 1), 18);
        for (int clerk = 0; clerk < 2; clerk++) {
            CHECK.is("dear of one", x.dear(clerk, clerk), none);
            CHECK.is("dear(.., 2)", x.dear(clerk, 2), none);
            CHECK.is("dear(2, ..)", x.dear(2, clerk), none);
            CHECK.is("dear(.., -1)", x.dear(clerk, -1), none);
            CHECK.is("dear(-1, ..)", x.dear(-1, clerk), none);
            for (int other : FAR_OFF) {
                CHECK.is("dear(.., " + other + ")", x.dear(clerk, other), none);
                CHECK.is("dear(" + other + ", ..)", x.dear(other, clerk), none);
            }
        }
    }

    // III: "COUPLES are pairs of CLERKS, each CLERK in one at most, who MEET in this DRILL, by which how DEAR all are together is most"; 23, 24

    private static void couplesAre(String what, FireDrill x, long most, int... with) {
        CHECK.is(what + ": couples()", x.couples(), most);
        for (int k = 0; k < with.length; k++) {
            CHECK.is(what + ": with(" + k + ")", x.with(k), with[k]);
        }
        CHECK.is(what + ": with one more", x.with(with.length), -1);
    }

    private static void couplesOfFew() {
        couplesAre("nobody", CHECK.made("room a;"), 0);
        couplesAre("one", CHECK.made(lawn(0) + Texts.onLawn(0)), 0, -1);
        couplesAre("two", CHECK.made(lawn(0) + Texts.onLawn(0, 0)), 18, 1, 0);
        couplesAre("eight", CHECK.made(lawn(0) + Texts.onLawn(0, 0, 0, 0, 0, 0, 0, 0)), 72, 1, 0, 3, 2, 5, 4, 7, 6);
        couplesAre("seven", CHECK.made(lawn(0) + Texts.onLawn(0, 0, 0, 0, 0, 0, 0)), 54, -1, 2, 1, 4, 3, 6, 5);
    }

    private static void couplesWhoMeet() {
        couplesAre("too far apart", CHECK.made(lawn(0, 4) + Texts.onLawn(0, 1) + "dear 9;"), 0, -1, -1);
        couplesAre("just near", CHECK.made(lawn(0, 3) + Texts.onLawn(0, 1) + "dear 9;"), 18, 1, 0);
        // For one minute alone, the last; and not at all.
        String late = Texts.rooms(4) + Texts.way(3, 1) + Texts.parts(0) + Texts.clerks(1, 3, 3, 3, 3, 3, 3, 3, 3) + "dear bag+1;";
        couplesAre("the last one does not come", CHECK.made(late), 6, -1, 2, 1, 4, 3, 6, 5, -1);
        FireDrill once = CHECK.made(Texts.rooms(1) + Texts.parts(0) + Texts.onLawn(0, 0) + "turns minute=1;dear 7;");
        CHECK.is("meets(0, 1)", once.meets(0, 1), 1);
        couplesAre("once", once, 14, 1, 0);
        couplesAre("never", CHECK.made(Texts.rooms(1) + Texts.parts(0) + Texts.onLawn(0, 0) + "turns minute=0;dear 7;"), 0, -1, -1);
    }

    private static void couplesEachInOneAtMost() {
        // Worth of 0 1 2 with one another by their bags: 1 with 2 is most.
        couplesAre("of three one pair", CHECK.made(lawn(0) + Texts.onLawn(0, 0, 0) + "dear bag+other;"), 6, -1, 2, 1);
        // 1 with 2 is dearest, but 0 with 1 and 2 with 3 are more together.
        String rows = lawn(0, 3, 6, 9) + Texts.onLawn(0, 1, 2, 3);
        couplesAre("two pairs", CHECK.made(rows + "dear 10-(bag+other-3)*(bag+other-3);"), 24, 1, 0, 3, 2);
        couplesAre("crosswise", CHECK.made(lawn(0, 9) + Texts.onLawn(0, 1, 0, 1) + "dear 5;"), 20, 2, 3, 0, 1);
        couplesAre("one within the other", CHECK.made(lawn(0, 9) + Texts.onLawn(0, 1, 1, 0) + "dear 5;"), 20, 3, 2, 1, 0);
        couplesAre("the one in the middle", CHECK.made(rows + "dear 10-4*(bag+other-3)*(bag+other-3);"), 20, -1, 2, 1, -1);
    }

    private static void couplesBelowZeroAndOfZero() {
        couplesAre("below 0", CHECK.made(lawn(0) + Texts.onLawn(0, 0) + "dear 0-1;"), 0, -1, -1);
        couplesAre("of 0", CHECK.made(lawn(0) + Texts.onLawn(0, 0) + "dear 0;"), 0, -1, -1);
        couplesAre("of 1", CHECK.made(lawn(0) + Texts.onLawn(0, 0) + "dear 1;"), 2, 1, 0);
        // 0 with 1 is below 0, 2 with 3 above: only the latter are one.
        couplesAre("some below 0", CHECK.made(lawn(0, 9) + Texts.onLawn(0, 0, 1, 1) + "dear bag+other-2;"), 6, -1, -1, 3, 2);
        FireDrill least = CHECK.made(lawn(0) + Texts.onLawn(0, 0, 0, 0) + "dear 0-1000*1000;");
        couplesAre("at the least", least, 0, -1, -1, -1, -1);
        FireDrill most = CHECK.made(lawn(0) + Texts.onLawn(0, 0, 0, 0, 0, 0, 0, 0) + "dear 1000*1000;");
        couplesAre("at the most", most, 8000000, 1, 0, 3, 2, 5, 4, 7, 6);
    }

    // III: "of like ones the first row (CLERK by CLERK who is with him, none ahead of CLERKS by numbers)"

    private static void couplesOfLikeOnesTheFirstRow() {
        couplesAre("three alike: the first stays alone", CHECK.made(lawn(0) + Texts.onLawn(0, 0, 0) + "dear 5;"), 10, -1, 2, 1);
        couplesAre("four alike", CHECK.made(lawn(0) + Texts.onLawn(0, 0, 0, 0) + "dear 5;"), 20, 1, 0, 3, 2);
        couplesAre("five alike", CHECK.made(lawn(0) + Texts.onLawn(0, 0, 0, 0, 0) + "dear 5;"), 20, -1, 2, 1, 4, 3);
        // 0 may be with 1 or with 2, who do not meet: the lesser number. With 1 in the middle none is ahead of all.
        couplesAre("one with either", CHECK.made(lawn(3, 0, 6) + Texts.onLawn(0, 1, 2) + "dear 5;"), 10, 1, 0, -1);
        couplesAre("the middle with either", CHECK.made(lawn(0, 3, 6) + Texts.onLawn(0, 1, 2) + "dear 5;"), 10, -1, 2, 1);
    }

    private static void withOfNoneSuch() {
        FireDrill x = CHECK.made(lawn(0) + Texts.onLawn(0, 0, 0) + "dear 5;");
        CHECK.is("with(0): nobody", x.with(0), -1);
        CHECK.is("with(2)", x.with(2), 1);
        CHECK.is("with(3)", x.with(3), -1);
        CHECK.is("with(-1)", x.with(-1), -1);
        for (int clerk : FAR_OFF) {
            CHECK.is("with(" + clerk + ")", x.with(clerk), -1);
        }
    }

    // III: "AHEAD are DRILLS .. (30 at most, not beyond 999)"; 25: "Behind n DRILLS AHEAD (0 .. 30) ..; NONE when n can't be."

    private static FireDrill at(int drills, int signed) {
        FireDrill x = CHECK.made(lawn(0) + Texts.onLawn(0, 0));
        Check.tape(x, Texts.image(drills / 256, drills % 256, 0, signed / 256, signed % 256));
        CHECK.is("on()", x.on(), true);
        return x;
    }

    private static void laterFromZeroToThirty() {
        FireDrill x = at(0, 5);
        for (int n = 0; n <= 30; n++) {
            CHECK.is("later(" + n + ")", x.later(n), 5 + n);
        }
        CHECK.is("later(31)", x.later(31), -1);
        CHECK.is("later(-1)", x.later(-1), -1);
        int[] others = {Integer.MIN_VALUE, -30, 32, 999, 1000, Integer.MAX_VALUE};
        for (int n : others) {
            CHECK.is("later(" + n + ")", x.later(n), -1);
        }
        for (int what = 0; what <= 5; what++) {
            CHECK.is("status: it is not counted", x.status(what), 0);
        }
    }

    private static void laterNotBeyond999() {
        CHECK.is("later(30) at 969", at(969, 0).later(30), 30);
        CHECK.is("later(30) at 970", at(970, 0).later(30), -1);
        CHECK.is("later(29) at 970", at(970, 0).later(29), 29);
        CHECK.is("later(1) at 998", at(998, 0).later(1), 1);
        CHECK.is("later(2) at 998", at(998, 0).later(2), -1);
        CHECK.is("later(0) at 999", at(999, 7).later(0), 7);
        CHECK.is("later(1) at 999", at(999, 7).later(1), -1);
    }

    private static void laterSigned9999AtMost() {
        CHECK.is("later(1) at 9998", at(0, 9998).later(1), 9999);
        CHECK.is("later(2) at 9998", at(0, 9998).later(2), 9999);
        CHECK.is("later(30) at 9999", at(0, 9999).later(30), 9999);
        CHECK.is("signed(0, 1) stays", at(0, 9998).signed(0, 1), 9998);
    }

    private static void laterWithoutDraws() {
        String text = Texts.rooms(2) + Texts.way(1, 2) + Texts.parts(0) + Texts.clerks(1, 1, 1) + "smoke 100;";
        FireDrill x = CHECK.made(text);
        CHECK.is("later(4): no smoke", x.later(4), 4);
        CHECK.is("chance(4): smoke each time", x.chance(4), 4);
        CHECK.is("has(6)", x.has(6), 0);
        // Each drill ahead sees those ahead of it.
        FireDrill y = CHECK.made(lawn(0) + Texts.onLawn(0, 0) + "turns drill=2 or drill>3;");
        int[] due = {0, 1, 2, 2, 3, 3, 3};
        for (int n = 0; n < due.length; n++) {
            CHECK.is("later(" + n + ") by drill", y.later(n), due[n]);
        }
    }

    private static void choosingChangesNothing() {
        CHECK.refused("posts(2)", Texts::used, -1, x -> x.posts(2), -1);
        CHECK.refused("dear(0, 3)", Texts::used, -1, x -> x.dear(0, 3), FireDrill.NOTHING);
        CHECK.refused("with(3)", Texts::used, -1, x -> x.with(3), -1);
        CHECK.refused("later(31)", Texts::used, -1, x -> x.later(31), -1);
        CHECK.refused("later(30), no act", Texts::used, -1, x -> x.later(30), Texts.used().later(30));
        CHECK.refused("wider(), no act", Texts::used, -1, FireDrill::wider, Texts.used().wider());
        CHECK.refused("couples(), no act", Texts::used, -1, FireDrill::couples, Texts.used().couples());
    }
}
