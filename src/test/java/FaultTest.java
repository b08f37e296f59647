/** Promises 4 and 5: the five faults of a house, each with its place. */
public final class FaultTest {
    private static final Check CHECK = new Check("FaultTest");
    private static final String ROOMS = "room a;room b;";
    private static final String PARTS = "room a;part p post 1;";

    public static void main(String[] args) {
        wrongWords();
        namesAsked();
        numbersAsked();
        endsTooSoon();
        blanks();
        formulas();
        numbersThatCannotBe();
        names();
        tooDeep();
        tooMany();
        theFirst();
        CHECK.finish();
    }

    private static void wrongWords() {
        CHECK.houseFault("x;", 1, 0);
        CHECK.houseFault(";", 1, 0);
        CHECK.houseFault("5;", 1, 0);
        CHECK.houseFault("  rooms a;", 1, 2);
        CHECK.houseFault("roo a;", 1, 0);
        CHECK.houseFault("Room a;", 1, 0);
        CHECK.houseFault("room A;", 1, 5);
        CHECK.houseFault("room aB;", 1, 6);
        CHECK.houseFault("room\ta;", 1, 4);
        CHECK.houseFault("room a\r;", 1, 6);
        CHECK.houseFault("room a b;", 1, 7);
        CHECK.houseFault("room a 5;", 1, 7);
        CHECK.houseFault("room a;;", 1, 7);
        CHECK.houseFault("room a,room b;", 1, 6);
        CHECK.houseFault("first all;", 1, 0);
        CHECK.houseFault("room \u00e9;", 1, 5);
        CHECK.behind(ROOMS, "stair a too b wide 1;", 1, 8);
        CHECK.behind(ROOMS, "stair a b wide 1;", 1, 8);
        CHECK.behind(ROOMS, "stair a to b 1;", 1, 13);
        CHECK.behind(ROOMS, "stair a to b wide 1 1;", 1, 20);
        CHECK.behind(PARTS, "part q 1;", 1, 7);
        CHECK.behind(PARTS, "clerk c of p;", 1, 8);
        CHECK.behind(PARTS, "clerk c in a in p;", 1, 13);
        CHECK.behind(PARTS, "clerk c in a of p bag 1;", 1, 18);
        CHECK.behind(PARTS, "clerk c in a of p pace 1;", 1, 24);
        CHECK.behind(PARTS, "clerk c in a of p pace 1 bag 1 pace 1;", 1, 31);
    }

    private static void namesAsked() {
        String[] own = ("room stair to wide part post clerk in of pace bag turns dear hears signs smoke drill minute crowd"
            + " other long number out signed meets or and not all min max").split(" ");
        for (String word : own) {
            CHECK.houseFault("room " + word + ";", 1, 5);
            CHECK.behind(ROOMS, "stair a to " + word, 1, 11);
            CHECK.behind(PARTS, "clerk " + word, 1, 6);
        }
        CHECK.houseFault("room 5;", 1, 5);
        CHECK.houseFault("room ;", 1, 5);
        CHECK.houseFault("room abcdefg;", 1, 11);
        CHECK.houseFault("room abcdefghijk;", 1, 11);
        CHECK.houseFault("room minutes;", 1, 11);
        CHECK.houseFault("part abcdefg post 1;", 1, 11);
        CHECK.behind(ROOMS, "stair abcdefg to b", 1, 12);
        CHECK.behind(ROOMS, "stair a to abcdefg", 1, 17);
        CHECK.behind(PARTS, "clerk c in a of abcdefg", 1, 22);
        CHECK.houseFault("room abcdef;room abcdef;", 3, 17);
    }

    private static void numbersAsked() {
        CHECK.behind(ROOMS, "stair a to b wide x;", 1, 18);
        CHECK.behind(ROOMS, "stair a to b wide 00001;", 1, 22);
        CHECK.behind(ROOMS, "stair a to b wide 99999;", 1, 22);
        CHECK.behind(ROOMS, "stair a to b wide 999999999999;", 1, 22);
        CHECK.behind(ROOMS, "stair a to b wide -1;", 1, 18);
        CHECK.behind(ROOMS, "stair a to b wide 1.5;", 1, 19);
        CHECK.houseFault("hears 12345;", 1, 10);
        CHECK.houseFault("turns 12345<1;", 1, 10);
        CHECK.houseFault("dear 1+12345;", 1, 11);
        CHECK.houseFault("hears 1 1;", 1, 8);
    }

    private static void endsTooSoon() {
        String house = "room a; room b; stair a to b wide 1; part p post 20; clerk c in b of p pace 1 bag 1; "
            + "turns not [ bag > 4 and min ( 1 , pace ) = 3 or all ] ; dear max ( ( long ) , other * 2 ) - 7 ; hears 3 ; "
            + "signs 2 ; smoke 50 ;";
        CHECK.house(house, 10);
        int statements = 0;
        for (int n = 0; n < house.length(); n++) {
            String text = house.substring(0, n);
            boolean cutWord = n > 0 && Character.isLetter(house.charAt(n)) && Character.isLetter(house.charAt(n - 1));
            statements += n > 0 && house.charAt(n - 1) == ';' ? 1 : 0;
            if (text.isBlank() || text.trim().endsWith(";")) {
                CHECK.house(text, statements);
            } else if (!cutWord) {
                CHECK.houseFault(text, 1, n);
            }
        }
        CHECK.houseFault("room a", 1, 6);
        CHECK.houseFault("room a  ", 1, 8);
        CHECK.houseFault("room  ", 1, 6);
        CHECK.houseFault("roo", 1, 0);
    }

    private static void blanks() {
        CHECK.houseFault("room5;", 1, 4);
        CHECK.houseFault("hears3;", 1, 5);
        CHECK.houseFault("hears99;", 1, 5);
        CHECK.behind(ROOMS, "stair a to b wide1;", 1, 17);
        CHECK.behind(PARTS, "clerk c in a of p pace 1bag 1;", 1, 24);
        CHECK.houseFault("turns bag>4and all;", 1, 11);
        CHECK.houseFault("turns bag5>4;", 1, 9);
        CHECK.house("turns(bag)>4 and[all]and not(1)<2;", 1);
        CHECK.houseFault("turnsall;", 1, 0);
    }

    private static void formulas() {
        CHECK.houseFault("turns ;", 1, 6);
        CHECK.houseFault("turns 1;", 1, 7);
        CHECK.houseFault("turns (all);", 1, 7);
        CHECK.houseFault("turns [1]<2;", 1, 8);
        CHECK.houseFault("turns 1<2<3;", 1, 9);
        CHECK.houseFault("turns 1<=2;", 1, 8);
        CHECK.houseFault("turns all all;", 1, 10);
        CHECK.houseFault("turns all or;", 1, 12);
        CHECK.houseFault("turns or all;", 1, 6);
        CHECK.houseFault("turns not;", 1, 9);
        CHECK.houseFault("turns all<1;", 1, 9);
        CHECK.houseFault("turns 1<all;", 1, 8);
        CHECK.houseFault("turns 1<not 2;", 1, 8);
        CHECK.houseFault("turns [all;", 1, 10);
        CHECK.houseFault("turns [all);", 1, 10);
        CHECK.houseFault("turns other<1;", 1, 6);
        CHECK.houseFault("turns long<1;", 1, 6);
        CHECK.houseFault("turns number<1;", 1, 6);
        CHECK.houseFault("turns meets 1<1;", 1, 6);
        CHECK.houseFault("turns post<1;", 1, 6);
        CHECK.houseFault("turns unknownword<1;", 1, 6);
        CHECK.houseFault("dear minute;", 1, 5);
        CHECK.houseFault("dear crowd;", 1, 5);
        CHECK.houseFault("dear signed;", 1, 5);
        CHECK.houseFault("dear out;", 1, 5);
        CHECK.houseFault("dear meets 1;", 1, 5);
        CHECK.houseFault("dear all;", 1, 5);
        CHECK.houseFault("dear 1<2;", 1, 6);
        CHECK.houseFault("dear -1;", 1, 5);
        CHECK.houseFault("dear 1+;", 1, 7);
        CHECK.houseFault("dear 1+*2;", 1, 7);
        CHECK.houseFault("dear min 1;", 1, 9);
        CHECK.houseFault("dear min(1);", 1, 10);
        CHECK.houseFault("dear min(1,2,3);", 1, 12);
        CHECK.houseFault("dear max(1,2;", 1, 12);
        CHECK.houseFault("dear (1;", 1, 7);
        CHECK.houseFault("dear (1));", 1, 8);
        CHECK.houseFault("dear ();", 1, 6);
        CHECK.houseFault("dear [1];", 1, 5);
        CHECK.houseFault("dear 2 bag;", 1, 7);
    }

    private static void numbersThatCannotBe() {
        CHECK.behind(ROOMS, "stair a to b wide 0;", 2, 18);
        CHECK.behind(ROOMS, "stair a to b wide 5;", 2, 18);
        CHECK.behind(ROOMS, "stair a to b wide 9999;", 2, 18);
        CHECK.houseFault("part p post 21;", 2, 12);
        CHECK.behind(PARTS, "clerk c in a of p pace 0 bag 1;", 2, 23);
        CHECK.behind(PARTS, "clerk c in a of p pace 4 bag 1;", 2, 23);
        CHECK.behind(PARTS, "clerk c in a of p pace 3 bag 10;", 2, 29);
        CHECK.houseFault("hears 21;", 2, 6);
        CHECK.houseFault("signs 0;", 2, 6);
        CHECK.houseFault("signs 10;", 2, 6);
        CHECK.houseFault("smoke 101;", 2, 6);
        CHECK.houseFault("smoke  0101", 2, 7);
        CHECK.house(ROOMS + "stair a to b wide 1;", 3);
        CHECK.house(ROOMS + "stair a to b wide 4;", 3);
        CHECK.house(PARTS + "clerk c in a of p pace 1 bag 0;", 3);
        CHECK.house(PARTS + "clerk c in a of p pace 3 bag 9;", 3);
    }

    private static void names() {
        CHECK.behind(ROOMS, "room a;", 3, 5);
        CHECK.behind(PARTS, "part a post 1;", 3, 5);
        CHECK.behind(PARTS, "room p;", 3, 5);
        CHECK.behind(PARTS, "part p post 1;", 3, 5);
        CHECK.behind(PARTS, "clerk a in a", 3, 6);
        CHECK.behind(PARTS, "clerk p in a", 3, 6);
        String clerk = PARTS + "clerk c in a of p pace 1 bag 1;";
        CHECK.behind(clerk, "clerk c in a", 3, 6);
        CHECK.behind(clerk, "room c;", 3, 5);
        CHECK.behind(clerk, "part c post 1;", 3, 5);
        CHECK.behind(clerk, "stair c to a wide 1;", 3, 6);
        CHECK.behind(clerk, "clerk d in c of p", 3, 11);
        CHECK.behind(clerk, "clerk d in a of c", 3, 16);
        CHECK.behind(PARTS, "stair p to a wide 1;", 3, 6);
        CHECK.behind(PARTS, "clerk d in p of p", 3, 11);
        CHECK.behind(PARTS, "clerk d in a of a", 3, 16);
        CHECK.behind(PARTS, "clerk d in d of p", 3, 11);
        CHECK.houseFault("stair a to b wide 1;room a;room b;", 3, 6);
        CHECK.houseFault("clerk c in a", 3, 11);
        CHECK.behind(ROOMS, "stair a to a wide 1;", 3, 11);
        CHECK.behind(ROOMS, "stair a to c wide 1;", 3, 11);
        String stair = ROOMS + "stair a to b wide 1;";
        CHECK.behind(stair, "stair a to b wide 2;", 3, 11);
        CHECK.behind(stair, "stair b to a wide 2;", 3, 11);
        CHECK.house(ROOMS + "room ab;room ba;room aa;", 5);
    }

    private static void tooDeep() {
        CHECK.house("dear ((((((1))))));", 1);
        CHECK.houseFault("dear (((((((1)))))));", 4, 11);
        CHECK.house("turns [[[[[[all]]]]]];", 1);
        CHECK.houseFault("turns [[[[[[[all", 4, 12);
        CHECK.house("turns not not not not not not all;", 1);
        CHECK.houseFault("turns not not not not not not not all;", 4, 30);
        // A not is open until its fact ends, a bracket until it shuts.
        CHECK.house("turns " + "not all and ".repeat(9) + "all or " + "[all] or ".repeat(9) + "all;", 1);
        CHECK.house("dear " + "(1)+".repeat(9) + "1;", 1);
        CHECK.house("turns [not[not[(1)<2]]];", 1);
        CHECK.houseFault("turns [not[not[((1))<2]]];", 4, 16);
        CHECK.house("turns not not not not not (1)<(2);", 1);
        CHECK.houseFault("turns not not not not not ((1))<2;", 4, 27);
        CHECK.houseFault("turns not not not not not (1)<(2+(3));", 4, 33);
        CHECK.houseFault("turns not not not not not not (1)<2;", 4, 30);
        CHECK.house("turns [[[[[not all]]]]];", 1);
        CHECK.houseFault("turns [[[[[[not all]]]]]];", 4, 12);
        CHECK.house("dear min(min(min(min(min(min(1,2),3),4),5),6),7);", 1);
        CHECK.houseFault("dear min(min(min(min(min(min(min(1,2),3),4),5),6),7),8);", 4, 32);
        CHECK.houseFault("dear ((((((max(1,2)))))));", 4, 14);
        CHECK.houseFault("dear max(1,((((((2))))));", 4, 16);
        CHECK.houseFault("dear ((((((max 1", 1, 15);
        CHECK.houseFault("turns all and not not not not not not not all;", 4, 38);
        CHECK.houseFault("turns all or not not not not not not not all;", 4, 37);
        CHECK.houseFault("turns 1<(((((((2;", 4, 14);
        CHECK.houseFault("dear 1*(((((((2;", 4, 13);
        CHECK.houseFault("dear 1+(((((((2;", 4, 13);
    }

    private static void tooMany() {
        String rooms = "room a;room b;room c;room d;room e;room f;room g;room h;";
        CHECK.behind(rooms, "room i;", 5, 0);
        CHECK.behind(rooms, " room", 5, 1);
        CHECK.behind(rooms, "rooms", 1, 0);
        String stairs = rooms + "stair a to b wide 1;stair a to c wide 1;stair a to d wide 1;stair a to e wide 1;"
            + "stair a to f wide 1;stair a to g wide 1;stair a to h wide 1;stair b to c wide 1;stair b to d wide 1;"
            + "stair b to e wide 1;";
        CHECK.behind(stairs, "\nstair b to f wide 1;", 5, 1);
        String parts = "room r;part a post 1;part b post 1;part c post 1;part d post 1;part e post 1;";
        CHECK.behind(parts, "part f post 1;", 5, 0);
        StringBuilder clerks = new StringBuilder(parts);
        for (int k = 0; k < 8; k++) {
            clerks.append("clerk c").append((char) ('a' + k)).append(" in r of a pace 1 bag 1;");
        }
        CHECK.house(clerks.toString(), 14);
        CHECK.behind(clerks.toString(), "clerk x in r of a pace 1 bag 1;", 5, 0);
        CHECK.behind("turns all;", "turns all;", 5, 0);
        CHECK.behind("dear 1;turns all;", "dear 1;", 5, 0);
        String eighty = "hears 1;".repeat(80);
        CHECK.behind(eighty, "hears 1;", 5, 0);
        CHECK.behind(eighty, " \n#", 5, 2);
        CHECK.behind(eighty, ";", 5, 0);
        CHECK.behind(eighty, "5", 5, 0);
        CHECK.behind(eighty, "nonsense", 5, 0);
        CHECK.behind("hears 1;".repeat(79), "nonsense", 1, 0);
    }

    private static void theFirst() {
        CHECK.houseFault("room a;room a;x", 3, 12);
        CHECK.houseFault("x;room a;room a;", 1, 0);
        CHECK.houseFault("smoke 101;room room;", 2, 6);
        CHECK.houseFault("room room;smoke 101;", 1, 5);
        CHECK.houseFault("turns all;turns (((((((;", 5, 10);
    }
}
