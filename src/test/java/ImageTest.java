import java.util.Arrays;

/** Promises 36 to 39: image, octet, on, status. */
public final class ImageTest {
    private static final Check CHECK = new Check("ImageTest");
    private static final String HOUSE = "room l;room a;stair a to l wide 1;part p post 3;part q post 12;"
        + "clerk x in l of p pace 1 bag 4;clerk y in a of p pace 2 bag 0;clerk z in l of q pace 3 bag 9;";

    public static void main(String[] args) {
        images();
        on();
        onRefuses();
        roundTrip();
        status();
        CHECK.finish();
    }

    private static FireDrill house() {
        return CHECK.house(HOUSE, 8);
    }

    private static void imageIs(FireDrill x, int... due) {
        CHECK.is("image()", x.image(), due.length);
        for (int k = 0; k < due.length; k++) {
            CHECK.is("octet(" + k + ")", x.octet(k), due[k]);
        }
        CHECK.is("octet behind", x.octet(due.length), -1);
        CHECK.is("octet(-1)", x.octet(-1), -1);
    }

    private static void images() {
        imageIs(new FireDrill(), 0, 0, 210);
        FireDrill x = house();
        CHECK.is("octet(0) ahead of any image()", x.octet(0), -1);
        imageIs(x, Texts.image(0, 0, 3, 12, 0, 0, 0, 0, 0, 0, 0));
        for (int k = 0; k < 10; k++) {
            x.drills(30);
        }
        x.shut(0, 1);
        x.post(1, 6);
        x.drills(1);
        CHECK.is("octet(2): of the latest image()", x.octet(2), 3);
        CHECK.is("octet(4)", x.octet(4), 0);
        // 301 drills; 0 and 1 signed 300 times, 0 and 2 once.
        imageIs(x, Texts.image(1, 45, 3, 6, 1, 1, 44, 0, 1, 0, 0));
        x.undo();
        CHECK.is("octet(1): the image stays", x.octet(1), 45);
        imageIs(x, Texts.image(1, 44, 3, 6, 1, 1, 44, 0, 0, 0, 0));
    }

    private static boolean on(FireDrill x, int... bytes) {
        Check.tape(x, bytes);
        return x.on();
    }

    private static void on() {
        FireDrill x = house();
        x.post(0, 4);
        Check.tape(x, 0, 255);
        x.see();
        CHECK.is("on()", on(x, Texts.image(1, 45, 20, 6, 1, 1, 44, 39, 15, 0, 7)), true);
        CHECK.is("has(4)", x.has(4), 301);
        CHECK.is("section(0, 0)", x.section(0, 0), 20);
        CHECK.is("section(1, 0)", x.section(1, 0), 6);
        CHECK.is("stair(0, 3)", x.stair(0, 3), 1);
        CHECK.is("signed(0, 1)", x.signed(0, 1), 300);
        CHECK.is("signed(0, 2)", x.signed(0, 2), 9999);
        CHECK.is("signed(1, 2)", x.signed(1, 2), 7);
        CHECK.is("has(8): nothing can be undone", x.has(8), 0);
        CHECK.is("undo()", x.undo(), false);
        CHECK.is("has(7): what is seen stays", x.has(7), 1);
        CHECK.is("status(5)", x.status(5), 0);
        CHECK.is("feed: the tape went", x.feed(0, 0, 0, 0, 0), 20);
        x.end(0);
        CHECK.is("on() at the most", on(x, Texts.image(3, 231, 20, 20, 1, 39, 15, 39, 15, 39, 15)), true);
        CHECK.is("has(4)", x.has(4), 999);
        CHECK.is("has(6)", x.has(6), 29997);
        CHECK.is("on() at the least", on(x, Texts.image(0, 0, 0, 0, 0, 0, 0, 0, 0, 0, 0)), true);
        CHECK.is("has(6)", x.has(6), 0);
        CHECK.is("on() of a new object", on(new FireDrill(), 0, 0, 210), true);
    }

    private static void onRefuses() {
        FireDrill x = house();
        x.drills(2);
        int[] good = Texts.image(0, 0, 0, 0, 0, 0, 0, 0, 0, 0, 0);
        int[] wrongCheck = good.clone();
        wrongCheck[11] = (wrongCheck[11] + 1) % 251;
        int[][] bad = {
            {}, {0}, {0, 0, 210}, wrongCheck, Arrays.copyOf(good, 11), Arrays.copyOf(good, 13),
            Texts.image(3, 232, 0, 0, 0, 0, 0, 0, 0, 0, 0), Texts.image(4, 0, 0, 0, 0, 0, 0, 0, 0, 0, 0),
            Texts.image(0, 0, 21, 0, 0, 0, 0, 0, 0, 0, 0), Texts.image(0, 0, 0, 21, 0, 0, 0, 0, 0, 0, 0),
            Texts.image(0, 0, 0, 0, 2, 0, 0, 0, 0, 0, 0), Texts.image(0, 0, 0, 0, 255, 0, 0, 0, 0, 0, 0),
            Texts.image(0, 0, 0, 0, 0, 39, 16, 0, 0, 0, 0), Texts.image(0, 0, 0, 0, 0, 0, 0, 39, 16, 0, 0),
            Texts.image(0, 0, 0, 0, 0, 0, 0, 0, 0, 39, 16), Texts.image(0, 0, 0, 0, 0, 0, 0, 0, 0, 255, 255),
            Texts.image(0, 0, 0, 0, 0, 0, 0, 0, 0, 0, 0, 0, 0),
        };
        for (int k = 0; k < bad.length; k++) {
            CHECK.is("on() of bad " + k, on(x, bad[k]), false);
            CHECK.is("status(5)", x.status(5), k + 1);
        }
        CHECK.is("has(4) stays", x.has(4), 2);
        CHECK.is("has(6) stays", x.has(6), 2);
        CHECK.is("has(8) stays", x.has(8), 1);
        CHECK.is("feed: the tape went", x.feed(0, 0, 0, 0, 0), 20);
        CHECK.is("section(0, 0) stays", x.section(0, 0), 3);
    }

    private static void roundTrip() {
        StringBuilder most = new StringBuilder("room a;room b;room c;room d;room e;room f;room g;room h;");
        for (int k = 1; k < 8; k++) {
            most.append("stair a to ").append((char) ('a' + k)).append(" wide 1;");
        }
        most.append("stair b to c wide 1;stair c to d wide 1;stair d to e wide 1;");
        for (int k = 0; k < 5; k++) {
            most.append("part p").append((char) ('a' + k)).append(" post ").append(2 * k).append(';');
        }
        for (int k = 0; k < 8; k++) {
            most.append("clerk c").append((char) ('a' + k)).append(" in ").append((char) ('a' + k)).append(" of p");
            most.append((char) ('a' + k % 5)).append(" pace 1 bag ").append(k).append(';');
        }
        FireDrill x = CHECK.house(most.toString(), 31);
        x.drills(3);
        x.shut(4, 1);
        x.shut(9, 1);
        x.post(2, 17);
        x.drills(11);
        CHECK.is("image()", x.image(), 2 + 5 + 10 + 56 + 1);
        int[] bytes = new int[74];
        for (int k = 0; k < 74; k++) {
            bytes[k] = x.octet(k);
        }
        FireDrill y = CHECK.house(most.toString(), 31);
        CHECK.is("on()", on(y, bytes), true);
        for (int what = 0; what <= 7; what++) {
            CHECK.is("has(" + what + ")", y.has(what), x.has(what));
        }
        for (int one = 0; one < 8; one++) {
            for (int other = 0; other < 8; other++) {
                CHECK.is("signed", y.signed(one, other), x.signed(one, other));
            }
        }
        for (int k = 0; k < 10; k++) {
            CHECK.is("stair", y.stair(k, 3), x.stair(k, 3));
        }
        CHECK.is("image() again", y.image(), 74);
        CHECK.is("octet(73)", y.octet(73), bytes[73]);
    }

    private static void status() {
        FireDrill x = house();
        int[] due = new int[6];
        x.end(-1);
        x.end(1);
        due[0] = 2;
        statusIs(x, due);
        x.see();
        Check.tape(x, "x");
        x.house();
        due[1] = 2;
        statusIs(x, due);
        x.post(0, 3);
        x.shut(0, 0);
        due[2] = 2;
        statusIs(x, due);
        x.drills(0);
        x.chance(0);
        due[3] = 2;
        statusIs(x, due);
        x.undo();
        due[4] = 1;
        statusIs(x, due);
        x.seed(-5);
        x.on();
        due[5] = 2;
        statusIs(x, due);
        // What is answered, or refused by calls that are not counted, changes nothing.
        x.ask();
        x.out(9);
        x.later(31);
        x.fault(7);
        x.post(0, 4);
        x.undo();
        x.seed(0);
        x.status(6);
        statusIs(x, due);
        CHECK.is("status(6)", x.status(6), -1);
        CHECK.is("status(-1)", x.status(-1), -1);
    }

    private static void statusIs(FireDrill x, int[] due) {
        for (int what = 0; what < 6; what++) {
            CHECK.is("status(" + what + ")", x.status(what), due[what]);
        }
    }
}
