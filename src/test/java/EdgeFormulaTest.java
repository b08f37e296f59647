/** The small language's values at their bounds, each as a SUM of dear, in a TEST of turns, and in a question. */
public final class EdgeFormulaTest {
    private static final Check CHECK = new Check("EdgeFormulaTest");
    private static final String HOUSE = Texts.rooms(1) + Texts.parts(4) + Texts.onLawn(0, 0);
    private static final int MOST = 1000000;

    public static void main(String[] args) {
        sumsAtTheMost();
        differencesAtTheLeast();
        productsAtTheirBounds();
        eachOneOnTheWay();
        greatestWholeNotAbove();
        byZero();
        fromTheLeftOn();
        minAndMax();
        comparisonsAtTheSame();
        orAndAndNot();
        holdsForAll();
        longestFormulas();
        CHECK.finish();
    }

    /** The two are alike, so how dear they are is twice the sum; two clerks are asked. */
    private static void worth(String sum, int due) {
        FireDrill x = CHECK.house(HOUSE + "dear " + sum + ";", 5);
        CHECK.is("dear of " + sum, x.dear(0, 1), 2L * due);
        CHECK.answer(x, "most " + sum, due);
        CHECK.answer(x, "least " + sum, due);
        CHECK.answer(x, "total " + sum, 2L * due);
        holds(sum + "=" + told(due), true);
        holds(sum + "<" + told(due), false);
        holds(sum + ">" + told(due), false);
    }

    private static String told(int n) {
        String thousands = "(" + Math.abs(n) / 1000 + "*1000+" + Math.abs(n) % 1000 + ")";
        return n < 0 ? "0-" + thousands : thousands;
    }

    private static void holds(String test, boolean due) {
        FireDrill x = CHECK.house(HOUSE + "turns " + test + ";", 5);
        CHECK.is("back by " + test, x.back(0), due ? 0 : -1);
        CHECK.answer(x, "often " + test, due ? 2 : 0);
        CHECK.answer(x, "first " + test, due ? 0 : -1);
        CHECK.answer(x, "last " + test, due ? 1 : -1);
    }

    // I: "each sum, difference, product above 10 to the 6 is that, below -10 to the 6 likewise"

    private static void sumsAtTheMost() {
        worth("9999*100+99", MOST - 1);
        worth("9999*100+100", MOST);
        worth("9999*100+101", MOST);
        worth("9999*100+9999", MOST);
        worth("0-9999*100+(0-100)", -MOST);
        worth("0-9999*100+(0-101)", -MOST);
        worth("0-9999*100+(0-99)", -MOST + 1);
    }

    private static void differencesAtTheLeast() {
        worth("0-9999*100-99", -MOST + 1);
        worth("0-9999*100-100", -MOST);
        worth("0-9999*100-101", -MOST);
        worth("9999*100-(0-99)", MOST - 1);
        worth("9999*100-(0-100)", MOST);
        worth("9999*100-(0-101)", MOST);
        worth("9999*9999-(0-9999*9999)", MOST);
        worth("0-9999*9999-9999*9999", -MOST);
        worth("9999*9999-9999*9999", 0);
    }

    private static void productsAtTheirBounds() {
        worth("1000*1000", MOST);
        worth("1000*999", MOST - 1000);
        worth("1000*1001", MOST);
        worth("9999*9999", MOST);
        worth("(0-1000)*1000", -MOST);
        worth("1000*(0-1001)", -MOST);
        worth("(0-1000)*(0-1000)", MOST);
        worth("(0-9999)*(0-9999)", MOST);
        worth("9999*9999*9999*9999", MOST);
        worth("9999*9999*(0-9999*9999)", -MOST);
        worth("0*9999", 0);
    }

    private static void eachOneOnTheWay() {
        worth("9999*9999-1", MOST - 1);
        worth("9999*9999+1-1", MOST - 1);
        worth("9999*9999/9999", 100);
        worth("0-9999*9999-1+1", -MOST + 1);
        worth("1+9999*9999-9999*9999", 0);
        worth("9999*9999/(0-1)", -MOST);
        worth("(0-9999*9999)/(0-1)", MOST);
    }

    // I: "/ gives the greatest whole number not above, by 0 it gives 0"

    private static void greatestWholeNotAbove() {
        worth("5/6", 0);
        worth("6/6", 1);
        worth("11/6", 1);
        worth("12/6", 2);
        worth("(0-1)/6", -1);
        worth("(0-6)/6", -1);
        worth("(0-7)/6", -2);
        worth("1/(0-6)", -1);
        worth("6/(0-6)", -1);
        worth("7/(0-6)", -2);
        worth("(0-5)/(0-6)", 0);
        worth("(0-7)/(0-6)", 1);
        worth("0/(0-6)", 0);
        worth("(0-9999*9999)/9999", -101);
        worth("9999/1", 9999);
    }

    private static void byZero() {
        worth("0/0", 0);
        worth("9999/0", 0);
        worth("(0-9999)/0", 0);
        worth("9999*9999/(3-3)", 0);
        worth("1+6/0*5", 1);
        worth("6/(1/2)", 0);
    }

    // I: "All from the left on"

    private static void fromTheLeftOn() {
        worth("9-3-2", 4);
        worth("9-3+2", 8);
        worth("16/4/2", 2);
        worth("16/4*2", 8);
        worth("7/2*2", 6);
        worth("7*2/2", 7);
        worth("1+2*3", 7);
        worth("2*3+1", 7);
        worth("(1+2)*3", 9);
        worth("9-(3-2)", 8);
        worth("9999*9999*0+5", 5);
    }

    private static void minAndMax() {
        worth("min(3,4)", 3);
        worth("min(4,3)", 3);
        worth("min(3,3)", 3);
        worth("max(3,4)", 4);
        worth("max(4,3)", 4);
        worth("max(0-4,0-3)", -3);
        worth("min(0-4,0-3)", -4);
        worth("min(1+2,2*2)+max(6/2,1)*2", 9);
    }

    private static void comparisonsAtTheSame() {
        int[] others = {4, 5, 6};
        for (int n : others) {
            holds("5<" + n, 5 < n);
            holds("5>" + n, 5 > n);
            holds("5=" + n, 5 == n);
            holds("not 5<" + n, 5 >= n);
            holds("not 5>" + n, 5 <= n);
            holds("not 5=" + n, 5 != n);
        }
        holds("0-1<0", true);
        holds("0>0-1", true);
        holds("9999*9999=1000*1000", true);
    }

    // I: "TEST: BOTH { or BOTH }. BOTH: FACT { and FACT }. FACT: not FACT; [ TEST ] ; all; SUM SIGN SUM"

    private static void orAndAndNot() {
        String[] facts = {"1=2", "1=1"};
        for (int a = 0; a < 2; a++) {
            holds("not " + facts[a], a == 0);
            holds("not not " + facts[a], a == 1);
            for (int b = 0; b < 2; b++) {
                holds(facts[a] + " and " + facts[b], a == 1 && b == 1);
                holds(facts[a] + " or " + facts[b], a == 1 || b == 1);
                holds("not " + facts[a] + " and " + facts[b], a == 0 && b == 1);
                holds("not[" + facts[a] + " or " + facts[b] + "]", a == 0 && b == 0);
                for (int c = 0; c < 2; c++) {
                    holds(facts[a] + " or " + facts[b] + " and " + facts[c], a == 1 || b == 1 && c == 1);
                    holds(facts[a] + " and " + facts[b] + " or " + facts[c], a == 1 && b == 1 || c == 1);
                    holds("[" + facts[a] + " or " + facts[b] + "]and " + facts[c], (a == 1 || b == 1) && c == 1);
                }
            }
        }
    }

    private static void holdsForAll() {
        holds("all", true);
        holds("not all", false);
        holds("[all]", true);
        holds("all and all or all", true);
    }

    /** As long as the tape, as many waiting at once as six open can have. */
    private static void longestFormulas() {
        FireDrill x = CHECK.house(HOUSE, 4);
        CHECK.answer(x, "total " + "1+".repeat(796) + "1 ", 2 * 797);
        CHECK.answer(x, "often " + "all and ".repeat(198) + "1=2 or all", 2);
        CHECK.answer(x, "often " + "1<1 or ".repeat(227) + "all", 2);
        for (int k = 0; k <= 6; k++) {
            String test = "1=2 or all and [".repeat(k) + "1=2 or all and 0<1+1*" + "max(1,1+1*".repeat(6 - k) + "1" + ")".repeat(6 - k) + "]".repeat(k);
            CHECK.answer(x, "often " + test, 2);
            CHECK.answer(x, "often " + test.replace("0<", "9<"), 0);
            CHECK.house("turns " + test + ";", 1);
        }
        // 1+2*( five times over is 2 to the 5 minus 1, plus 2 to the 5 times 3.
        CHECK.answer(x, "most 1+2*(1+2*(1+2*(1+2*(1+2*3))))", 31 + 32 * 3);
        CHECK.answer(x, "most 1+2*min(1,1+2*min(9,1+2*min(9,1+2*min(9,1+2*min(9,1+2*min(9,3))))))", 3);
        CHECK.answer(x, "most 1+2*max(1,1+2*max(1,1+2*max(1,1+2*max(1,1+2*max(1,1+2*max(1,3))))))", 63 + 64 * 3);
    }
}
