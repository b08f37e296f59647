/** Part IV and promise 35, bound by bound: questions of all clerks. */
public final class EdgeQuestionTest {
    private static final Check CHECK = new Check("EdgeQuestionTest");
    /** OUT: 0 0 1 -1 99; x, y and w meet one another, z nobody, v never comes. */
    private static final String HOUSE = "room l;room a;room c;stair a to l wide 2;part p post 3;part q post 12;"
        + "clerk x in a of p pace 1 bag 4;clerk y in a of p pace 2 bag 0;clerk z in a of q pace 3 bag 9;"
        + "clerk w in l of p pace 1 bag 2;clerk v in c of q pace 2 bag 7;";
    private static final String EIGHT = Texts.rooms(1) + Texts.parts(0) + Texts.onLawn(0, 0, 0, 0, 0, 0, 0, 0);

    public static void main(String[] args) {
        firstAndLastAtBothEnds();
        firstAndLastOfNone();
        oftenFromNoneToAll();
        totalOfAll();
        mostAndLeast();
        withoutClerks();
        wordsOfAQuestion();
        outInAQuestion();
        signedInAQuestion();
        meetsOfThoseThereAreNot();
        meetsHimself();
        meetsThePartAlone();
        questionTakesTheTape();
        faultLeavesAll();
        answersLeaveAll();
        unknownWordsAtTheirFirstByte();
        whatStandsBehindIt();
        endsTooSoon();
        digitsOneToFour();
        blanksInAQuestion();
        noOtherFaults();
        sixOpenAtOnce();
        meetsUntilItsPartEnds();
        CHECK.finish();
    }

    private static FireDrill house() {
        return CHECK.house(HOUSE, 11);
    }

    private static FireDrill eight() {
        return CHECK.house(EIGHT, 10);
    }

    // IV: "first TEST, last TEST (the first, the last CLERK for whom it holds)"; 35: "NONE of first, last, when its TEST holds for none"

    private static void firstAndLastAtBothEnds() {
        FireDrill x = eight();
        CHECK.answer(x, "first all", 0);
        CHECK.answer(x, "last all", 7);
        for (int k = 0; k < 8; k++) {
            CHECK.answer(x, "first number=" + k, k);
            CHECK.answer(x, "last number=" + k, k);
        }
        CHECK.answer(x, "first bag>6", 7);
        CHECK.answer(x, "last bag<1", 0);
        CHECK.answer(x, "first bag>2 and bag<6", 3);
        CHECK.answer(x, "last bag>2 and bag<6", 5);
    }

    private static void firstAndLastOfNone() {
        FireDrill x = eight();
        CHECK.answer(x, "first bag>7", -1);
        CHECK.answer(x, "last bag>7", -1);
        CHECK.answer(x, "first not all", -1);
        CHECK.answer(x, "last not all", -1);
        CHECK.answer(x, "first number=8", -1);
    }

    // IV: "often TEST (for how many)"

    private static void oftenFromNoneToAll() {
        FireDrill x = eight();
        CHECK.answer(x, "often all", 8);
        CHECK.answer(x, "often not all", 0);
        for (int k = 0; k <= 8; k++) {
            CHECK.answer(x, "often bag<" + k, k);
        }
    }

    // IV: "total SUM (of all together)"

    private static void totalOfAll() {
        FireDrill x = eight();
        CHECK.answer(x, "total bag", 28);
        CHECK.answer(x, "total 0-bag", -28);
        // Each clerk's sum has its bounds, all together have none.
        CHECK.answer(x, "total 1000*1000", 8000000);
        CHECK.answer(x, "total 0-1000*1000", -8000000);
        CHECK.answer(x, "total 1000*1000+1", 8000000);
        CHECK.answer(x, "total 0", 0);
    }

    // IV: "most SUM, least SUM (the greatest, the least of all; 0 without CLERKS)"

    private static void mostAndLeast() {
        FireDrill x = eight();
        CHECK.answer(x, "most bag", 7);
        CHECK.answer(x, "least bag", 0);
        CHECK.answer(x, "most 0-bag-1", -1);
        CHECK.answer(x, "least 0-bag-1", -8);
        CHECK.answer(x, "most bag-9", -2);
        CHECK.answer(x, "least bag+1", 1);
        CHECK.answer(x, "most 7-bag", 7);
        CHECK.answer(x, "least 7-bag", 0);
        CHECK.answer(x, "most (bag-3)*(4-bag)", 0);
        CHECK.answer(x, "least (bag-3)*(4-bag)", -12);
        CHECK.answer(x, "most 5", 5);
        CHECK.answer(x, "least 5", 5);
        CHECK.answer(x, "most 0-9999*9999", -1000000);
        CHECK.answer(x, "least 9999*9999", 1000000);
        FireDrill one = CHECK.house(Texts.rooms(1) + Texts.parts(0) + Texts.clerks(1, 0), 3);
        CHECK.answer(one, "most 0-5", -5);
        CHECK.answer(one, "least 5", 5);
    }

    private static void withoutClerks() {
        FireDrill[] none = {new FireDrill(), CHECK.house(Texts.rooms(3) + Texts.way(2, 1) + Texts.parts(4), 6)};
        for (FireDrill x : none) {
            CHECK.answer(x, "first all", -1);
            CHECK.answer(x, "last all", -1);
            CHECK.answer(x, "often all", 0);
            CHECK.answer(x, "total 5", 0);
            CHECK.answer(x, "most 5", 0);
            CHECK.answer(x, "least 5", 0);
            CHECK.answer(x, "most 0-5", 0);
            CHECK.answer(x, "least 0-5", 0);
            CHECK.answer(x, "total meets 0", 0);
            CHECK.askFault(x, "total", 1, 5);
        }
    }

    // IV: "PART: N; number; pace; bag; post; out; signed; drill; meets PART; .."

    private static void wordsOfAQuestion() {
        FireDrill x = house();
        CHECK.answer(x, "total number", 0 + 1 + 2 + 3 + 4);
        CHECK.answer(x, "total pace", 1 + 2 + 3 + 1 + 2);
        CHECK.answer(x, "total bag", 4 + 0 + 9 + 2 + 7);
        CHECK.answer(x, "total post", 3 + 3 + 12 + 3 + 12);
        x.post(0, 0);
        CHECK.answer(x, "total post", 12 + 12);
        CHECK.answer(x, "total drill", 0);
        x.drills(30);
        CHECK.answer(x, "most drill", 30);
        CHECK.answer(x, "total drill", 150);
        String[] none = {"minute", "crowd", "other", "long", "room", "stair", "to", "hears", "x", "l", "p"};
        for (String word : none) {
            CHECK.askFault(x, "total " + word, 1, 6);
            CHECK.askFault(x, "first " + word + ">1", 1, 6);
        }
    }

    private static void outInAQuestion() {
        FireDrill x = house();
        int[] outs = {0, 0, 1, -1, 99};
        for (int k = 0; k < 5; k++) {
            CHECK.is("out(" + k + ")", x.out(k), outs[k]);
            CHECK.answer(x, "often number=" + k + " and out=" + (outs[k] < 0 ? "0-1" : outs[k]), 1);
        }
        CHECK.answer(x, "least out", -1);
        CHECK.answer(x, "most out", 99);
        CHECK.answer(x, "first out=0-1", 3);
        CHECK.answer(x, "first out=99", 4);
        CHECK.answer(x, "often out<0", 1);
        x.shut(0, 1);
        CHECK.answer(x, "often out=99", 4);
    }

    private static void signedInAQuestion() {
        FireDrill x = house();
        CHECK.answer(x, "total signed", 0);
        x.drills(3);
        CHECK.answer(x, "first signed=6", 0);
        CHECK.answer(x, "last signed=6", 3);
        CHECK.answer(x, "often signed=0", 2);
        CHECK.answer(x, "total signed", 18);
        x.undo();
        CHECK.answer(x, "total signed", 0);
        // Seven pairs of 9999 each are told whole.
        FireDrill most = eight();
        int[] bytes = new int[3 + 56];
        for (int k = 3; k < bytes.length; k += 2) {
            bytes[k] = 39;
            bytes[k + 1] = 15;
        }
        Check.tape(most, Texts.image(bytes));
        CHECK.is("on()", most.on(), true);
        CHECK.answer(most, "least signed", 7 * 9999);
        CHECK.answer(most, "total signed", 56 * 9999);
        CHECK.answer(most, "most signed*100", 1000000);
    }

    // IV: "MINUTES in which he MEETS the CLERK of that number in this DRILL, 0 with himself, of those that there are not"

    private static void meetsOfThoseThereAreNot() {
        FireDrill x = house();
        CHECK.answer(x, "total meets 3", 18);
        CHECK.answer(x, "total meets 4", 0);
        String[] none = {"5", "7", "8", "9", "9999", "(0-1)", "(0-2)", "(1000*1000)", "(0-1000*1000)"};
        for (String n : none) {
            CHECK.answer(x, "total meets " + n, 0);
            CHECK.answer(x, "often meets " + n + "=0", 5);
        }
        FireDrill y = eight();
        CHECK.answer(y, "total meets 7", 63);
        CHECK.answer(y, "total meets 8", 0);
        CHECK.answer(y, "total meets(0-1)", 0);
        // Nor of those that an earlier house had.
        Check.tape(y, Texts.rooms(1) + Texts.parts(0) + Texts.onLawn(0, 0));
        CHECK.is("house()", y.house(), 4);
        CHECK.answer(y, "total meets 7", 0);
        CHECK.answer(y, "total meets 2", 0);
        CHECK.answer(y, "total meets 1", 9);
    }

    private static void meetsHimself() {
        FireDrill x = eight();
        CHECK.answer(x, "total meets number", 0);
        CHECK.answer(x, "most meets number", 0);
        for (int k = 0; k < 8; k++) {
            CHECK.answer(x, "first meets " + k + "=0", k);
            CHECK.answer(x, "often meets " + k + "=9", 7);
        }
    }

    private static void meetsThePartAlone() {
        FireDrill x = house();
        CHECK.answer(x, "total meets 0+1", 18 + 5);
        CHECK.answer(x, "total meets(0+1)", 18);
        CHECK.answer(x, "total meets 0*2", 36);
        CHECK.answer(x, "total 2*meets 0", 36);
        CHECK.answer(x, "total meets min(0,1)", 18);
        CHECK.answer(x, "total meets pace", 9 + 0 + 0 + 9 + 0);
        CHECK.answer(x, "total meets meets number", 18);
    }

    // 35: "The tape (it goes) is a QUESTION"; "NOTHING with a FAULT"

    private static void questionTakesTheTape() {
        FireDrill x = house();
        CHECK.answer(x, "total 1", 5);
        CHECK.is("end(1) behind an answer", x.end(1), false);
        CHECK.askFault(x, "total", 1, 5);
        CHECK.is("end(1) behind a fault", x.end(1), false);
        CHECK.is("feed", x.feed(0, 0, 0, 0, 0), 20);
    }

    private static long ask(FireDrill x, String question) {
        Check.tape(x, question);
        return x.ask();
    }

    private static void faultLeavesAll() {
        String[] wrong = {"", "x", "total", "total (((((((1", "first all all", "total 12345"};
        for (String question : wrong) {
            CHECK.refused("ask() of " + question, Texts::used, -1, x -> ask(x, question), FireDrill.NOTHING);
        }
        // An answer that is as NONE, and one as of no clerks, is none: the fault tells.
        FireDrill x = house();
        CHECK.askFault(x, "first x", 1, 6);
        CHECK.answer(x, "first not all", -1);
    }

    private static void answersLeaveAll() {
        CHECK.refused("ask() of a total, no act", Texts::used, -1, x -> ask(x, "total bag"), 6);
        CHECK.refused("ask() of a first, no act", Texts::used, -1, x -> ask(x, "first meets 0>0"), 1);
    }

    // IV: "1 as in I (an unknown word at its first byte; what stands behind it, too)"

    private static void unknownWordsAtTheirFirstByte() {
        FireDrill x = house();
        String[] heads = {"x all", "firs all", "firstall", "lasts all", "oftenall", "totals 1", "mos 1", "leastx 1", "room a;", "all", "bag", "5", "not all"};
        for (String question : heads) {
            CHECK.askFault(x, question, 1, 0);
            CHECK.askFault(x, " \n" + question, 1, 2);
        }
        CHECK.askFault(x, "total unknownword", 1, 6);
        CHECK.askFault(x, "total bags", 1, 6);
        CHECK.askFault(x, "first alll", 1, 6);
        CHECK.askFault(x, "first all andd all", 1, 10);
        CHECK.askFault(x, "total 1+pac", 1, 8);
        CHECK.askFault(x, "total meets x", 1, 12);
        CHECK.askFault(x, "total meet 0", 1, 6);
        CHECK.askFault(x, "total Bag", 1, 6);
    }

    private static void whatStandsBehindIt() {
        FireDrill x = house();
        String[] rests = {";", "x", "all", "5", "(", ")", "]", "first all", "#", "\t", "\u0000", "bag", "not"};
        for (String rest : rests) {
            CHECK.askFault(x, "first all " + rest, 1, 10);
            CHECK.askFault(x, "total 1 " + rest, 1, 8);
        }
        CHECK.askFault(x, "total 1<2", 1, 7);
        CHECK.askFault(x, "total 1 and 2", 1, 8);
        CHECK.askFault(x, "first 1<2<3", 1, 9);
        CHECK.askFault(x, "total all", 1, 6);
        CHECK.askFault(x, "total [1]", 1, 6);
        CHECK.askFault(x, "first (all)", 1, 7);
        CHECK.answer(x, "total 1 \n ", 5);
    }

    private static void endsTooSoon() {
        FireDrill x = house();
        String[] starts = {"", " ", "first", "last ", "often not", "total", "most 1+", "least 2*", "first 1", "first 1<", "first [all", "first all and",
            "first all or\n", "total (1", "total min", "total min(", "total min(1", "total min(1,", "total min(1,2", "total meets", "total meets ("};
        for (String question : starts) {
            CHECK.askFault(x, question, 1, question.length());
        }
    }

    private static void digitsOneToFour() {
        FireDrill x = house();
        CHECK.answer(x, "most 9999", 9999);
        CHECK.answer(x, "most 0009", 9);
        CHECK.askFault(x, "most 10000", 1, 9);
        CHECK.askFault(x, "most 00000", 1, 9);
        CHECK.askFault(x, "total meets 12345", 1, 16);
        CHECK.askFault(x, "first 1<123456", 1, 12);
        CHECK.askFault(x, "12345", 1, 0);
        CHECK.askFault(x, "total 1 12345", 1, 8);
    }

    private static void blanksInAQuestion() {
        FireDrill x = house();
        CHECK.answer(x, "first[all]", 0);
        CHECK.answer(x, "total(1)", 5);
        CHECK.answer(x, "\nfirst\n not\n[ bag = 4 ] \n", 1);
        CHECK.askFault(x, "total5", 1, 5);
        CHECK.askFault(x, "total 5bag", 1, 7);
        CHECK.askFault(x, "total bag5", 1, 9);
        CHECK.askFault(x, "total meets0", 1, 11);
        CHECK.askFault(x, "first bag>4and all", 1, 11);
        CHECK.askFault(x, "first all\r", 1, 9);
    }

    /** No names, no statements: faults 2, 3 and 5 are none of a question's. */
    private static void noOtherFaults() {
        FireDrill x = house();
        CHECK.answer(x, "total 9999", 5 * 9999);
        CHECK.askFault(x, "total x", 1, 6);
        CHECK.askFault(x, "room l;", 1, 0);
        CHECK.askFault(x, "turns all;", 1, 0);
    }

    // IV: "4 the 7th of ( [ not meets that is open at once .., at it"

    private static void sixOpenAtOnce() {
        FireDrill x = house();
        String[] heads = {"total ", "often ", "often ", "total "};
        String[] opens = {"(", "[", "not ", "meets "};
        String[] cores = {"1", "all", "all", "9"};
        String[] shuts = {")", "]", "", ""};
        long[] due = {5, 5, 5, 18};
        for (int k = 0; k < 4; k++) {
            CHECK.answer(x, heads[k] + opens[k].repeat(6) + cores[k] + shuts[k].repeat(6), due[k]);
            int place = 6 + 6 * opens[k].length();
            CHECK.askFault(x, heads[k] + opens[k].repeat(7) + cores[k] + shuts[k].repeat(7), 4, place);
            CHECK.askFault(x, heads[k] + opens[k].repeat(7), 4, place);
            CHECK.askFault(x, heads[k] + opens[k].repeat(9), 4, place);
        }
        CHECK.answer(x, "often not[meets(meets(1))>9]", 5);
        CHECK.askFault(x, "often not[meets(meets((1)))>9]", 4, 22);
        CHECK.askFault(x, "often not[not[meets(meets(1))>9]]", 4, 20);
        CHECK.askFault(x, "total ((((((min(1,2)))))))", 4, 15);
        CHECK.askFault(x, "total ((((((meets 1", 4, 12);
    }

    // IV: "(not until its FACT, meets until its PART ends)"

    private static void meetsUntilItsPartEnds() {
        FireDrill x = house();
        CHECK.answer(x, "total meets 0+meets 0+meets 0+meets 0+meets 0+meets 0+meets 0", 7 * 18);
        CHECK.answer(x, "total meets 0*0+((((((1))))))", 5);
        CHECK.answer(x, "total meets meets meets meets meets meets 9+((((((0))))))", 18);
        CHECK.answer(x, "total meets(0)+meets(meets(meets(9)))", 18);
        CHECK.answer(x, "often not not not not not meets 0>9 and not not not not not meets 0>9", 5);
        CHECK.askFault(x, "often not not not not not not meets 0>9", 4, 30);
        CHECK.askFault(x, "often not not not not not meets(0)>9", 4, 31);
        CHECK.answer(x, "often not not not not not 0<meets 9 or all", 5);
    }
}
