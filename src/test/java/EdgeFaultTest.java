/** Promise 5, names, blanks and the faults of part I, bound by bound. */
public final class EdgeFaultTest {
    private static final Check CHECK = new Check("EdgeFaultTest");
    private static final String[] OWN = ("room stair to wide part post clerk in of pace bag turns dear hears signs smoke drill minute"
        + " crowd other long number out signed meets or and not all min max").split(" ");

    public static void main(String[] args) {
        namesOfOneToSixLetters();
        seventhLetterAtItself();
        seventhLetterOnlyWhereANameIsAsked();
        ownWordsAreNoNames();
        nearlyOwnWordsAreNames();
        lettersAreSmall();
        namesUnlikeOfAllSorts();
        namesToldAhead();
        namesOfAnotherSort();
        digitsOneToFour();
        fifthDigitAtItself();
        blanksWhereOneLikes();
        blanksBetweenWordsAndNumbers();
        otherBytesAreNoBlanks();
        wordsWholeAtTheirFirstByte();
        everyLetterOfAWordCounts();
        everyWordIsAsked();
        endsTooSoonAtItsLength();
        everyPlaceAsksForItsOwn();
        sixOpenAtOnce();
        notUntilItsFactEnds();
        bracketsOfMinAndMax();
        theFirstAlongTheText();
        faultOfTheLatest();
        faultForOthers();
        CHECK.finish();
    }

    // I: "NAMES: 1 to 6 letters"; 1 "where a NAME is asked, .. a 7th letter at itself"

    private static void namesOfOneToSixLetters() {
        for (int n = 1; n <= 6; n++) {
            String name = "abcxyz".substring(0, n);
            FireDrill x = CHECK.house("room " + name + ";part q post 0;clerk r in " + name + " of q pace 1 bag 0;room s;stair s to "
                + name + " wide 1;", 5);
            for (int k = 0; k < 6; k++) {
                CHECK.is("letter(0, 0, " + k + ") of " + name, x.letter(0, 0, k), k < n ? name.charAt(k) - 96 : 0);
            }
            CHECK.house("part " + name + " post 0;room l;clerk c in l of " + name + " pace 1 bag 0;", 3);
            CHECK.house("room l;part p post 0;clerk " + name + " in l of p pace 1 bag 0;", 3);
        }
        CHECK.houseFault("room ;", 1, 5);
        CHECK.houseFault("part post 1;", 1, 5);
    }

    private static void seventhLetterAtItself() {
        String[] names = {"abcdefg", "abcdefgh", "abcdefghijklmnopqrstuvwxyz", "minutes", "signedx", "zzzzzzz"};
        for (String name : names) {
            CHECK.behind("room ", name + ";", 1, 6);
            CHECK.behind("room ", name, 1, 6);
            CHECK.behind("part ", name + " post 1;", 1, 6);
            CHECK.behind("clerk ", name + " in", 1, 6);
            CHECK.behind("room a;stair ", name + " to a wide 1;", 1, 6);
            CHECK.behind("room a;stair a to ", name + " wide 1;", 1, 6);
            CHECK.behind("room a;clerk c in ", name + " of", 1, 6);
            CHECK.behind("room a;part p post 0;clerk c in a of ", name + " pace", 1, 6);
        }
        // Also where its first six letters are a name that is there already, or none.
        CHECK.behind("room abcdef;room ", "abcdefg;", 1, 6);
        CHECK.behind("room abcdef;stair ", "abcdefg to", 1, 6);
        CHECK.houseFault("room abcdef;room abcdef;", 3, 17);
    }

    private static void seventhLetterOnlyWhereANameIsAsked() {
        CHECK.houseFault("abcdefgh x;", 1, 0);
        CHECK.houseFault("room a abcdefgh;", 1, 7);
        CHECK.houseFault("hears abcdefgh;", 1, 6);
        CHECK.houseFault("turns abcdefgh;", 1, 6);
        CHECK.behind(Texts.ROOMS, "stair a abcdefgh b", 1, 8);
    }

    // I: "no OWN WORD"; 1 "where a NAME is asked, an OWN WORD so"

    private static void ownWordsAreNoNames() {
        CHECK.is("own words", OWN.length, 31);
        for (String word : OWN) {
            CHECK.behind("room ", word + ";", 1, 0);
            CHECK.behind("part ", word + " post 1;", 1, 0);
            CHECK.behind("clerk ", word + " in a", 1, 0);
            CHECK.behind("room a;stair ", word + " to a", 1, 0);
            CHECK.behind("room a;stair a to ", word + " wide 1;", 1, 0);
            CHECK.behind("room a;clerk c in ", word + " of", 1, 0);
            CHECK.behind("room a;part p post 0;clerk c in a of ", word + " pace", 1, 0);
        }
    }

    private static void nearlyOwnWordsAreNames() {
        for (String word : OWN) {
            if (word.length() < 6) {
                CHECK.house("room " + word + "x;", 1);
                CHECK.house("room x" + word + ";", 1);
            }
            CHECK.house("room " + word.substring(0, word.length() - 1) + ";", 1);
            // What min is without its first letter is in.
            if (!word.equals("min")) {
                CHECK.house("room " + word.substring(1) + ";", 1);
            }
        }
        for (String word : "first last often total most least".split(" ")) {
            CHECK.house("room " + word + ";", 1);
        }
    }

    private static void lettersAreSmall() {
        for (int b = 0; b < 256; b++) {
            boolean letter = b >= 'a' && b <= 'z';
            boolean blank = b == 10 || b == 32;
            String text = "room x" + (char) b + ";";
            if (letter) {
                CHECK.is("letter(0, 0, 1)", CHECK.house(text, 1).letter(0, 0, 1), b - 96);
            } else if (blank) {
                CHECK.house(text, 1);
            } else {
                CHECK.houseFault(text, 1, b == ';' ? 7 : 6);
            }
        }
    }

    // I: "unlike ones (of all sorts)"; 3 "a NAME to be given that is there already .. at it"

    private static void namesUnlikeOfAllSorts() {
        String[] given = {"room n;", "part n post 0;", "clerk n in l of s pace 1 bag 0;"};
        String[] heads = {"room ", "part ", "clerk "};
        String head = "room l;part s post 0;";
        for (String first : given) {
            for (String second : heads) {
                CHECK.behind(head + first + second, "n", 3, 0);
                CHECK.behind(head + first + second, "  n;", 3, 2);
                CHECK.house(head + first + "hears 1;", 4);
            }
            CHECK.house(head + first + "room nn;part m post 0;clerk o in l of s pace 1 bag 0;", 6);
        }
    }

    // I: "told ahead of where they are asked"; 3 "one that is none of what is asked"

    private static void namesToldAhead() {
        CHECK.houseFault("stair a to b wide 1;room a;room b;", 3, 6);
        CHECK.houseFault("room a;stair a to b wide 1;room b;", 3, 18);
        CHECK.house("room a;room b;stair a to b wide 1;", 3);
        CHECK.houseFault("part p post 0;clerk c in a of p pace 1 bag 0;room a;", 3, 25);
        CHECK.houseFault("room a;clerk c in a of p pace 1 bag 0;part p post 0;", 3, 23);
        CHECK.house("part p post 0;room a;clerk c in a of p pace 1 bag 0;", 3);
    }

    private static void namesOfAnotherSort() {
        String head = "room a;room b;part p post 0;clerk c in a of p pace 1 bag 0;";
        String[] none = {"p", "c", "x", "aa"};
        for (String name : none) {
            CHECK.behind(head + "stair ", name + " to a wide 1;", 3, 0);
            CHECK.behind(head + "stair a to ", name + " wide 1;", 3, 0);
            CHECK.behind(head + "clerk d in ", name + " of p", 3, 0);
        }
        String[] noSection = {"a", "b", "c", "x", "d"};
        for (String name : noSection) {
            CHECK.behind(head + "clerk d in a of ", name + " pace 1 bag 0;", 3, 0);
        }
        CHECK.behind(head + "clerk d in ", "d of p pace 1 bag 0;", 3, 0);
    }

    // I: "N (1 to 4 digits)"; 1 "where a number is asked, a 5th digit at itself"

    private static void digitsOneToFour() {
        String[] numbers = {"0", "9", "00", "99", "000", "999", "0000", "9999", "0001"};
        for (String n : numbers) {
            FireDrill x = CHECK.house("room ra;" + Texts.parts(0) + Texts.onLawn(0, 0) + "dear " + n + ";", 5);
            CHECK.is("dear(0, 1) of " + n, x.dear(0, 1), 2L * Integer.parseInt(n));
            CHECK.house("turns " + n + "=" + n + ";", 1);
        }
    }

    private static void fifthDigitAtItself() {
        String[] heads = {"hears ", "signs ", "smoke ", "dear ", "dear 1+", "dear (", "dear min(1,", "turns ", "turns 1<", "part p post ",
            "room a;room b;stair a to b wide ", Texts.PARTS + "clerk c in a of p pace ", Texts.PARTS + "clerk c in a of p pace 1 bag "};
        for (String head : heads) {
            CHECK.behind(head, "00000", 1, 4);
            CHECK.behind(head, "12345;", 1, 4);
            CHECK.behind(head, "123456789", 1, 4);
        }
        // Where no number is asked it is whole, at its first byte.
        CHECK.houseFault("12345;", 1, 0);
        CHECK.houseFault("room 12345;", 1, 5);
        CHECK.houseFault("room a 12345;", 1, 7);
    }

    // I: "Blanks (10, 32) are where one likes (words and numbers side by side need one)."

    private static void blanksWhereOneLikes() {
        String house = "room a ; room b ; stair a to b wide 1 ; part p post 2 ; clerk c in b of p pace 1 bag 3 ; "
            + "turns not [ bag + 1 > 4 and min ( 1 , pace ) = 3 or all ] ; dear max ( ( long ) , other * 2 / 3 ) - 7 ; hears 3 ;";
        CHECK.house(house, 8);
        CHECK.house(house.replace(' ', '\n'), 8);
        CHECK.house(house.replace(" ", " \n "), 8);
        CHECK.house("\n  " + house, 8);
        // None needed beside a sign.
        CHECK.house(house.replaceAll(" ?([^a-z0-9 ]) ?", "$1"), 8);
        CHECK.house("turns[all]and(1)<2 or not[all];", 1);
    }

    private static void blanksBetweenWordsAndNumbers() {
        CHECK.houseFault("hears3;", 1, 5);
        CHECK.houseFault("hears21;", 1, 5);
        CHECK.houseFault("hears12345;", 1, 5);
        CHECK.houseFault("room5;", 1, 4);
        CHECK.houseFault("room a5;", 1, 6);
        CHECK.houseFault("5room a;", 1, 0);
        CHECK.houseFault("part p post1;", 1, 11);
        CHECK.houseFault("part p5 post 1;", 1, 6);
        CHECK.behind(Texts.PARTS, "clerk c in a of p pace 1bag 0;", 1, 24);
        CHECK.houseFault("turns 1<2and all;", 1, 9);
        CHECK.houseFault("turns 1<2or all;", 1, 9);
        CHECK.houseFault("dear 2bag;", 1, 6);
        CHECK.houseFault("dear bag2;", 1, 8);
        CHECK.houseFault("dear min2;", 1, 8);
        // Two words without one are a longer word, two numbers a longer number.
        CHECK.houseFault("rooma;", 1, 0);
        CHECK.houseFault("turnsall;", 1, 0);
        CHECK.houseFault("turns notall;", 1, 6);
        CHECK.houseFault("turns all andall;", 1, 10);
        CHECK.houseFault("dear 1 1;", 1, 7);
    }

    private static void otherBytesAreNoBlanks() {
        for (int b = 0; b < 256; b++) {
            boolean blank = b == 10 || b == 32;
            boolean wordLike = b >= 'a' && b <= 'z' || b >= '0' && b <= '9';
            String text = "hears 1;" + (char) b + "hears 2;";
            if (blank) {
                CHECK.house(text, 2);
            } else if (!wordLike) {
                CHECK.houseFault(text, 1, 8);
            }
        }
    }

    // I: 1 "words and numbers whole, at their first byte", "at the text's length, if it ends too soon"

    private static void wordsWholeAtTheirFirstByte() {
        CHECK.houseFault("roo", 1, 0);
        CHECK.houseFault("roomx a;", 1, 0);
        CHECK.houseFault("r", 1, 0);
        CHECK.behind(Texts.ROOMS, "stair a t", 1, 8);
        CHECK.behind(Texts.ROOMS, "stair a tox b", 1, 8);
        CHECK.behind(Texts.ROOMS, "stair a to b wid", 1, 13);
        CHECK.behind(Texts.ROOMS, "stair a to b widen 1;", 1, 13);
        CHECK.houseFault("turns al", 1, 6);
        CHECK.houseFault("turns all an", 1, 10);
        CHECK.houseFault("turns all o", 1, 10);
        CHECK.houseFault("turns no", 1, 6);
        CHECK.houseFault("dear mi", 1, 5);
        CHECK.houseFault("dear lon", 1, 5);
        CHECK.houseFault("dear longer;", 1, 5);
    }

    private static final String HEAD = "room a;room b;part p post 0;";
    private static final String[] STATEMENTS = {"room x ;", "stair a to b wide 1 ;", "part q post 1 ;", "clerk c in a of p pace 1 bag 1 ;",
        "turns all ;", "turns 1 < 2 ;", "turns not [ all or all and all ] ;", "turns pace + bag - drill < minute / crowd ;",
        "dear min ( 1 , 2 ) + 3 * max ( pace , other - long ) ;", "hears 1 ;", "signs 1 ;", "smoke 1 ;"};

    private static boolean isOwn(String word) {
        return java.util.Arrays.asList(OWN).contains(word);
    }

    private static void everyLetterOfAWordCounts() {
        for (String statement : STATEMENTS) {
            int at = 0;
            for (String word : statement.split(" ")) {
                for (int k = 0; isOwn(word) && k < word.length(); k++) {
                    String other = word.substring(0, k) + "z" + word.substring(k + 1);
                    CHECK.behind(HEAD, statement.substring(0, at) + other + statement.substring(at + word.length()), 1, at);
                }
                at += word.length() + 1;
            }
        }
    }

    /** A statement without one of its words is at fault at what stands in that one's place. */
    private static void everyWordIsAsked() {
        String[] whole = {"room x ;", "stair a to b wide 1 ;", "part q post 1 ;", "clerk c in a of p pace 1 bag 1 ;", "hears 1 ;", "signs 1 ;",
            "smoke 1 ;", "dear min ( 1 , 2 ) ;", "turns 1 < 2 ;"};
        for (String statement : whole) {
            int at = 0;
            for (String word : statement.split(" ")) {
                String rest = statement.substring(Math.min(statement.length(), at + word.length() + 1));
                boolean right = word.equals("min");
                if (!right) {
                    CHECK.behind(HEAD, statement.substring(0, at) + rest, 1, at);
                }
                at += word.length() + 1;
            }
        }
        CHECK.houseFault("dear (1,2);", 1, 7);
        // Nor may a word go with what it brings.
        CHECK.behind(HEAD, "stair a wide 1;", 1, 8);
        CHECK.behind(HEAD, "stair a to b;", 1, 12);
        CHECK.behind(HEAD, "part q;", 1, 6);
        CHECK.behind(HEAD, "clerk c of p pace 1 bag 1;", 1, 8);
        CHECK.behind(HEAD, "clerk c in a pace 1 bag 1;", 1, 13);
        CHECK.behind(HEAD, "clerk c in a of p bag 1;", 1, 18);
        CHECK.behind(HEAD, "clerk c in a of p pace 1;", 1, 24);
        CHECK.behind(HEAD, "clerk c;", 1, 7);
    }

    private static void endsTooSoonAtItsLength() {
        CHECK.houseFault("room", 1, 4);
        CHECK.houseFault("room ", 1, 5);
        CHECK.houseFault("room\n\n\n", 1, 7);
        CHECK.houseFault("room a", 1, 6);
        CHECK.houseFault("room a \n", 1, 8);
        CHECK.houseFault("hears", 1, 5);
        CHECK.houseFault("hears 1", 1, 7);
        CHECK.houseFault("turns", 1, 5);
        CHECK.houseFault("turns 1", 1, 7);
        CHECK.houseFault("turns 1<", 1, 8);
        CHECK.houseFault("turns [all", 1, 10);
        CHECK.houseFault("dear min", 1, 8);
        CHECK.houseFault("dear min(1", 1, 10);
        CHECK.houseFault("dear min(1,2", 1, 12);
        CHECK.houseFault("dear (1", 1, 7);
        CHECK.houseFault(" ".repeat(1594) + "room a", 1, 1600);
        CHECK.houseFault("room" + " ".repeat(1596), 1, 1600);
    }

    /** Each place of a statement takes what is asked there alone; the fault is at what stands there. */
    private static void everyPlaceAsksForItsOwn() {
        String[] wrong = {"#", "}", "wide", "{", "`", ":", "@", ".", "_"};
        for (String statement : STATEMENTS) {
            CHECK.house(HEAD + statement, 4);
            String[] words = statement.split(" ");
            int at = 0;
            for (int k = 0; k < words.length; k++) {
                for (String sign : wrong) {
                    boolean due = words[k].equals(sign);
                    String text = statement.substring(0, at) + sign + statement.substring(at + words[k].length());
                    if (!due) {
                        CHECK.behind(HEAD, text, 1, at);
                    }
                }
                at += words[k].length() + 1;
            }
        }
    }

    // I: 4 "the 7th of ( [ not that is open at once .., at it"

    private static void sixOpenAtOnce() {
        String[] opens = {"(", "[", "not "};
        String[] shuts = {")", "]", ""};
        for (int k = 0; k < 3; k++) {
            String core = k == 0 ? "1" : "all";
            String rest = k == 0 ? "=1;" : ";";
            for (int n = 1; n <= 9; n++) {
                String text = opens[k].repeat(n) + core + shuts[k].repeat(n) + rest;
                if (n <= 6) {
                    CHECK.house("turns " + text, 1);
                } else {
                    CHECK.behind("turns ", text, 4, 6 * opens[k].length());
                    CHECK.behind("turns ", opens[k].repeat(n), 4, 6 * opens[k].length());
                }
            }
        }
        CHECK.house("turns [not[not[(1)=1]]];", 1);
        CHECK.houseFault("turns [not[not[((1))=1]]];", 4, 16);
        CHECK.houseFault("turns [not[not[not[all", 4, 18);
        CHECK.house("dear ((((((1))))));", 1);
        CHECK.houseFault("dear (((((((1)))))));", 4, 11);
        // A sign that can't stand there is fault 1, however many are open.
        CHECK.houseFault("dear ((((((1(", 1, 12);
        CHECK.houseFault("dear (((((([", 1, 11);
        CHECK.houseFault("turns [[[[[[all[", 1, 15);
        CHECK.houseFault("turns [[[[[[all not", 1, 16);
    }

    // I: 4 "(not until its FACT ends)"

    private static void notUntilItsFactEnds() {
        CHECK.house("turns not not not not not not all and not not not not not not all or not not not not not not all;", 1);
        CHECK.house("turns not not not not not 1<(2) and ((((((1))))))=1;", 1);
        CHECK.house("turns not not not not not(1)<(2);", 1);
        CHECK.houseFault("turns not not not not not((1))<2;", 4, 26);
        CHECK.houseFault("turns not not not not not 1<((2));", 4, 29);
        CHECK.houseFault("turns not not not not not not 1<(2);", 4, 32);
        CHECK.houseFault("turns not not not not not not[all];", 4, 29);
        CHECK.houseFault("turns not not not not not[not[all]];", 4, 26);
        CHECK.house("turns not not not not not[all]and[[[[[[all]]]]]];", 1);
        CHECK.house("turns [[[[[not all]and not all]and not all]and not all]and not all];", 1);
        CHECK.houseFault("turns [[[[[[not all", 4, 12);
        CHECK.house("dear ((((((1))))))+((((((1))))))*((((((1))))));", 1);
    }

    /** The ( of min and max is one of them. */
    private static void bracketsOfMinAndMax() {
        CHECK.house("dear max(max(max(max(max(max(1,2),3),4),5),6),7);", 1);
        CHECK.houseFault("dear max(max(max(max(max(max(max(1,2),3),4),5),6),7),8);", 4, 32);
        CHECK.houseFault("dear ((((((min(1,2)))))));", 4, 14);
        CHECK.house("dear (((((min(1,2))))));", 1);
        CHECK.house("dear min((((((1))))),(((((2))))));", 1);
        CHECK.houseFault("dear min(1,((((((2", 4, 16);
        CHECK.houseFault("dear ((((((min 1", 1, 15);
    }

    // I: "FAULTS, the first along the text"

    private static void theFirstAlongTheText() {
        String[] texts = {"hears x;", "hears 21;", "room a;", "dear (((((((1", "turns all;"};
        int[] places = {6, 6, 5, 11, 0};
        for (int first = 0; first < 5; first++) {
            for (int second = 0; second < 5; second++) {
                // A fault of each kind, and behind it another one: the first is told.
                String head = "room a;turns all;";
                CHECK.behind(head, texts[first] + ";" + texts[second], first + 1, places[first]);
            }
        }
        CHECK.houseFault("room a;stair x to x wide 9", 3, 13);
        CHECK.houseFault("room a;stair a to a wide 9", 3, 18);
        CHECK.houseFault("room a;room b;stair a to b wide 9 x", 2, 32);
    }

    // 5: "Of the latest house() or ask(): its FAULT (what 0; 0 without, and ahead of any), its place (1; NONE without)."

    private static void faultIs(String what, FireDrill x, int fault, int place) {
        CHECK.is(what + ": fault(0)", x.fault(0), fault);
        CHECK.is(what + ": fault(1)", x.fault(1), place);
    }

    private static void faultOfTheLatest() {
        FireDrill x = new FireDrill();
        faultIs("ahead of any", x, 0, -1);
        Check.tape(x, "room a;hears 21;");
        x.house();
        faultIs("a house", x, 2, 13);
        faultIs("told again", x, 2, 13);
        Check.tape(x, "total 12345");
        x.ask();
        faultIs("a question behind it", x, 1, 10);
        Check.tape(x, "total 1");
        x.ask();
        faultIs("a question without", x, 0, -1);
        Check.tape(x, "room a;room a;");
        x.house();
        faultIs("a house behind it", x, 3, 12);
        Check.tape(x, 9, 9, 9);
        x.see();
        Check.tape(x, 9, 9, 9);
        x.on();
        x.post(0, 0);
        x.undo();
        faultIs("see(), on() and acts have none", x, 3, 12);
        Check.tape(x, "room a;");
        x.house();
        faultIs("a house without", x, 0, -1);
        x.ask();
        faultIs("an empty question", x, 1, 0);
        x.house();
        faultIs("an empty house", x, 0, -1);
    }

    // 5: "NONE for another what."

    private static void faultForOthers() {
        int[] others = {-1, 2, 3, Integer.MIN_VALUE, Integer.MAX_VALUE};
        FireDrill x = new FireDrill();
        for (int round = 0; round < 2; round++) {
            for (int what : others) {
                CHECK.is("fault(" + what + ")", x.fault(what), -1);
            }
            Check.tape(x, "hears 21;");
            x.house();
        }
    }
}
