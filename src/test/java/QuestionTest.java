/** Promise 35: ask, and the faults of a question. */
public final class QuestionTest {
    private static final Check CHECK = new Check("QuestionTest");
    /** OUT: 0 0 1 -1 99; x and y and w meet one another, z none, v never comes. */
    private static final String HOUSE = "room l;room a;room c;stair a to l wide 2;part p post 3;part q post 12;"
        + "clerk x in a of p pace 1 bag 4;clerk y in a of p pace 2 bag 0;clerk z in a of q pace 3 bag 9;"
        + "clerk w in l of p pace 1 bag 2;clerk v in c of q pace 2 bag 7;";

    public static void main(String[] args) {
        kinds();
        words();
        meets();
        arithmetic();
        withoutClerks();
        afterActs();
        faults();
        tooDeep();
        CHECK.finish();
    }

    private static FireDrill house() {
        return CHECK.house(HOUSE, 11);
    }

    private static void kinds() {
        FireDrill x = house();
        CHECK.answer(x, "first all", 0);
        CHECK.answer(x, "last all", 4);
        CHECK.answer(x, "often all", 5);
        CHECK.answer(x, "first bag>4", 2);
        CHECK.answer(x, "last bag<4", 3);
        CHECK.answer(x, "often bag>4", 2);
        CHECK.answer(x, "first bag>9", -1);
        CHECK.answer(x, "last bag>9", -1);
        CHECK.answer(x, "often bag>9", 0);
        CHECK.answer(x, "total bag", 22);
        CHECK.answer(x, "most bag", 9);
        CHECK.answer(x, "least bag", 0);
        CHECK.answer(x, "most 0-bag-1", -1);
        CHECK.answer(x, "least 0-bag-1", -10);
        CHECK.answer(x, "total 0-bag", -22);
        CHECK.answer(x, "most 0-number-1", -1);
        CHECK.answer(x, "least number+1", 1);
        CHECK.answer(x, " \nfirst\nnot [ bag = 4 ] \n", 1);
        CHECK.answer(x, "total(bag)", 22);
        CHECK.answer(x, "total 9999*9999", 5000000);
        CHECK.answer(x, "most 9999*9999", 1000000);
        CHECK.answer(x, "least 0-9999*9999-1", -1000000);
        CHECK.is("has(8): asking is no act", x.has(8), 0);
    }

    private static void words() {
        FireDrill x = house();
        CHECK.answer(x, "total number", 10);
        CHECK.answer(x, "last number<3", 2);
        CHECK.answer(x, "total pace", 9);
        CHECK.answer(x, "total post", 33);
        CHECK.answer(x, "total out", 0 + 0 + 1 - 1 + 99);
        CHECK.answer(x, "least out", -1);
        CHECK.answer(x, "first out=99", 4);
        CHECK.answer(x, "total signed", 0);
        CHECK.answer(x, "total drill", 0);
        CHECK.answer(x, "total min(bag,pace)", 1 + 0 + 3 + 1 + 2);
        CHECK.answer(x, "total max(bag,pace)", 4 + 2 + 9 + 2 + 7);
        CHECK.answer(x, "first bag=0 or bag=9 and pace=1", 1);
        CHECK.answer(x, "often not bag=0 and pace=1", 2);
    }

    private static void meets() {
        FireDrill x = house();
        CHECK.answer(x, "total meets 0", 0 + 9 + 0 + 9);
        CHECK.answer(x, "total meets number", 0);
        CHECK.answer(x, "total meets 3", 18);
        CHECK.answer(x, "total meets 2", 0);
        CHECK.answer(x, "total meets 5", 0);
        CHECK.answer(x, "total meets 9999", 0);
        CHECK.answer(x, "total meets (0-1)", 0);
        CHECK.answer(x, "total meets(number+1)", 9);
        CHECK.answer(x, "first meets 0>0", 1);
        // meets takes the next part alone, and may be that part itself.
        CHECK.answer(x, "total meets 0+1", 18 + 5);
        CHECK.answer(x, "total 2*meets 0", 36);
        CHECK.answer(x, "total meets meets number", 18);
        CHECK.answer(x, "total meets max(0,3)", 18);
        CHECK.answer(x, "total meets bag", 9);
        CHECK.answer(x, "total meets(pace-1)", 0 + 0 + 0 + 9 + 0);
        // Clerks of an earlier house are none any more.
        Check.tape(x, "room l;part p post 0;clerk x in l of p pace 1 bag 0;clerk y in l of p pace 1 bag 0;");
        CHECK.is("house()", x.house(), 4);
        CHECK.answer(x, "total meets 3", 0);
        CHECK.answer(x, "total meets 1", 9);
    }

    private static void arithmetic() {
        FireDrill x = house();
        CHECK.answer(x, "most 1+2*3", 7);
        CHECK.answer(x, "most 8/2/2", 2);
        CHECK.answer(x, "most (0-7)/2", -4);
        CHECK.answer(x, "most 7/(bag-bag)", 0);
        CHECK.answer(x, "most 9999*9999-1", 999999);
        CHECK.answer(x, "most 9999*9999*9999/9999", 100);
    }

    private static void withoutClerks() {
        FireDrill x = new FireDrill();
        CHECK.answer(x, "first all", -1);
        CHECK.answer(x, "last all", -1);
        CHECK.answer(x, "often all", 0);
        CHECK.answer(x, "total 5", 0);
        CHECK.answer(x, "most 5", 0);
        CHECK.answer(x, "least 5", 0);
        CHECK.askFault(x, "most", 1, 4);
    }

    private static void afterActs() {
        FireDrill x = house();
        x.drills(3);
        CHECK.answer(x, "total signed", 18);
        CHECK.answer(x, "most signed", 6);
        CHECK.answer(x, "first signed=6", 0);
        CHECK.answer(x, "total drill", 15);
        x.post(1, 4);
        CHECK.answer(x, "total post", 3 + 3 + 4 + 3 + 4);
        CHECK.answer(x, "total meets 2", 24);
        x.shut(0, 1);
        CHECK.answer(x, "total out", 4 * 99 - 1);
        x.undo();
        x.undo();
        x.undo();
        CHECK.answer(x, "total signed+post+out", 33 + 99);
    }

    private static void faults() {
        FireDrill x = house();
        CHECK.askFault(x, "", 1, 0);
        CHECK.askFault(x, "  ", 1, 2);
        CHECK.askFault(x, "frist all", 1, 0);
        CHECK.askFault(x, "5", 1, 0);
        CHECK.askFault(x, "room a;", 1, 0);
        CHECK.askFault(x, "first", 1, 5);
        CHECK.askFault(x, "first ", 1, 6);
        CHECK.askFault(x, "first bag", 1, 9);
        CHECK.askFault(x, "first bag>", 1, 10);
        CHECK.askFault(x, "first unknown>1", 1, 6);
        CHECK.askFault(x, "first minute>1", 1, 6);
        CHECK.askFault(x, "first crowd>1", 1, 6);
        CHECK.askFault(x, "total other", 1, 6);
        CHECK.askFault(x, "total long", 1, 6);
        CHECK.askFault(x, "total ann", 1, 6);
        CHECK.askFault(x, "total all", 1, 6);
        CHECK.askFault(x, "total bag>1", 1, 9);
        CHECK.askFault(x, "total bag;", 1, 9);
        CHECK.askFault(x, "total bag ;", 1, 10);
        CHECK.askFault(x, "total bag bag", 1, 10);
        CHECK.askFault(x, "first all first all", 1, 10);
        CHECK.askFault(x, "total 12345", 1, 10);
        CHECK.askFault(x, "total 1+12345678", 1, 12);
        CHECK.askFault(x, "total5", 1, 5);
        CHECK.askFault(x, "total 5bag", 1, 7);
        CHECK.askFault(x, "total meets", 1, 11);
        CHECK.askFault(x, "total meets+1", 1, 11);
        CHECK.askFault(x, "total meets5", 1, 11);
        CHECK.askFault(x, "total min(1)", 1, 11);
        CHECK.askFault(x, "total (1", 1, 8);
        CHECK.askFault(x, "total 1)", 1, 7);
        CHECK.askFault(x, "first [all", 1, 10);
        CHECK.askFault(x, "First all", 1, 0);
        CHECK.askFault(x, "first all\t", 1, 9);
        for (int what = 0; what <= 5; what++) {
            CHECK.is("status: ask() is not counted", x.status(what), 0);
        }
        CHECK.is("feed: the tape went", x.feed(0, 0, 0, 0, 0), 20);
        x.end(0);
        CHECK.is("has(3): all stays", x.has(3), 5);
        CHECK.answer(x, "total 1", 5);
    }

    private static void tooDeep() {
        FireDrill x = house();
        CHECK.answer(x, "total ((((((1))))))", 5);
        CHECK.askFault(x, "total (((((((1)))))))", 4, 12);
        CHECK.answer(x, "often not not not not not not all", 5);
        CHECK.askFault(x, "often not not not not not not not all", 4, 30);
        CHECK.answer(x, "often [[[[[[all]]]]]]", 5);
        CHECK.askFault(x, "often [[[[[[[all]]]]]]]", 4, 12);
        CHECK.answer(x, "total meets meets meets meets meets meets 9", 18);
        CHECK.askFault(x, "total meets meets meets meets meets meets meets 0", 4, 42);
        CHECK.askFault(x, "total meets meets meets meets meets meets(0)", 4, 41);
        CHECK.answer(x, "total meets meets meets meets meets(9)", 0);
        // meets is open until its part ends.
        CHECK.answer(x, "total " + "meets 0+".repeat(9) + "0", 9 * 18);
        CHECK.askFault(x, "often [not meets(meets(meets 0))>1]", 4, 23);
        CHECK.answer(x, "often [not meets(meets(0))=1]", 5);
    }
}
