import java.util.Arrays;

/** Promises 36 to 39, bound by bound: image, octet, on, status. */
public final class EdgeImageTest {
    private static final Check CHECK = new Check("EdgeImageTest");
    private static final int[] FAR_OFF = {Integer.MIN_VALUE, -100, -1, 100, 1600, Integer.MAX_VALUE};
    /** Two sections, one stair, three clerks: 2 + 2 + 1 + 6 + 1 bytes. */
    private static final String HOUSE = "room l;room a;stair a to l wide 1;part p post 3;part q post 12;"
        + "clerk x in l of p pace 1 bag 4;clerk y in a of p pace 2 bag 0;clerk z in l of q pace 3 bag 9;";

    public static void main(String[] args) {
        imageOfNoHouse();
        imageOfTheLargestHouse();
        imageByteByByte();
        imageOfTwoBytes();
        imagePairByPair();
        imageIsNoAct();
        octetAheadOfAny();
        octetWithinTheImage();
        octetOfTheLatestImage();
        onOfItsOwnImage();
        onAtTheMost();
        onAtTheLeast();
        onBeyondTheMost();
        onOfAnotherLength();
        onWithAnotherLastByte();
        onRefusedLeavesAll();
        onUndoesNothing();
        onTakesTheTape();
        onLeavesWhatItDoesNotTell();
        statusCountsItsOwn();
        statusForOthers();
        CHECK.finish();
    }

    private static FireDrill house() {
        return CHECK.house(HOUSE, 8);
    }

    private static boolean on(FireDrill x, int... bytes) {
        Check.tape(x, bytes);
        return x.on();
    }

    private static void imageIs(String what, FireDrill x, int... due) {
        CHECK.is(what + ": image()", x.image(), due.length);
        for (int k = 0; k < due.length; k++) {
            CHECK.is(what + ": octet(" + k + ")", x.octet(k), due[k]);
        }
        CHECK.is(what + ": octet behind it", x.octet(due.length), -1);
    }

    // 36: "AN IMAGE is written: how many bytes."; IV: "last a byte: all ahead from 107 on, c = (3 c + it) mod 251"

    private static void imageOfNoHouse() {
        // 107, then 3 * 107 mod 251 = 70, then 3 * 70 = 210.
        imageIs("no house", new FireDrill(), 0, 0, 210);
        FireDrill x = new FireDrill();
        x.drills(7);
        imageIs("no house, seven drills", x, 0, 7, 217);
        imageIs("a lawn", CHECK.house("room a;", 1), 0, 0, 210);
        // 3 * 210 mod 251 = 128, and 20.
        imageIs("a section", CHECK.house("part p post 20;", 1), 0, 0, 20, 148);
        // A clerk alone has no pair.
        imageIs("a clerk", CHECK.house("room a;part p post 0;clerk c in a of p pace 1 bag 0;", 3), 0, 0, 0, 128);
    }

    private static void imageOfTheLargestHouse() {
        FireDrill x = CHECK.house(Texts.rooms(8) + Texts.stairs(10) + Texts.parts(1, 2, 3, 4, 5) + Texts.onLawn(0, 0, 0, 0, 0, 0, 0, 0), 31);
        CHECK.is("image()", x.image(), 2 + 5 + 10 + 56 + 1);
        CHECK.is("octet(73)", x.octet(73) >= 0, true);
        CHECK.is("octet(74)", x.octet(74), -1);
        int c = 107;
        for (int k = 0; k < 73; k++) {
            c = (3 * c + x.octet(k)) % 251;
        }
        CHECK.is("octet(73): all ahead", x.octet(73), c);
    }

    // IV: "DRILLS (two bytes, the higher first); for each SECTION its POST; for each STAIR 1 if it is SHUT, else 0; for each pair .."

    private static void imageByteByByte() {
        FireDrill x = house();
        imageIs("at first", x, Texts.image(0, 0, 3, 12, 0, 0, 0, 0, 0, 0, 0));
        x.post(1, 20);
        x.shut(0, 1);
        imageIs("a post and a stair", x, Texts.image(0, 0, 3, 20, 1, 0, 0, 0, 0, 0, 0));
        x.post(0, 0);
        x.shut(0, 0);
        x.drills(1);
        imageIs("a drill", x, Texts.image(0, 1, 0, 20, 0, 0, 1, 0, 0, 0, 0));
        x.undo();
        imageIs("undone", x, Texts.image(0, 0, 0, 20, 0, 0, 0, 0, 0, 0, 0));
    }

    private static void imageOfTwoBytes() {
        FireDrill x = house();
        int[] counts = {0, 1, 255, 256, 257, 511, 512, 998, 999};
        for (int n : counts) {
            int[] bytes = Texts.image(n / 256, n % 256, 3, 12, 0, n / 256, n % 256, 0, 0, 0, 0);
            CHECK.is("on() of " + n, on(x, bytes), true);
            CHECK.is("has(4)", x.has(4), n);
            CHECK.is("signed(0, 1)", x.signed(0, 1), n);
            imageIs("of " + n, x, bytes);
        }
        FireDrill y = house();
        for (int k = 0; k < 8; k++) {
            y.drills(30);
        }
        y.drills(15);
        imageIs("255 drills", y, Texts.image(0, 255, 3, 12, 0, 0, 255, 0, 0, 0, 0));
        y.drills(1);
        imageIs("256 drills", y, Texts.image(1, 0, 3, 12, 0, 1, 0, 0, 0, 0, 0));
    }

    private static void imagePairByPair() {
        FireDrill x = CHECK.house(Texts.rooms(1) + Texts.parts(0) + Texts.onLawn(0, 0, 0, 0), 6);
        int[] bytes = {0, 0, 0, 0, 1, 0, 2, 0, 3, 0, 4, 0, 5, 0, 6};
        CHECK.is("on()", on(x, Texts.image(bytes)), true);
        int[][] pairs = {{0, 1}, {0, 2}, {0, 3}, {1, 2}, {1, 3}, {2, 3}};
        for (int k = 0; k < 6; k++) {
            CHECK.is("signed(" + pairs[k][0] + ", " + pairs[k][1] + ")", x.signed(pairs[k][0], pairs[k][1]), k + 1);
            CHECK.is("signed(" + pairs[k][1] + ", " + pairs[k][0] + ")", x.signed(pairs[k][1], pairs[k][0]), k + 1);
        }
        CHECK.is("has(6)", x.has(6), 21);
        CHECK.is("clerk(0, 4)", x.clerk(0, 4), 1 + 2 + 3);
        CHECK.is("clerk(3, 4)", x.clerk(3, 4), 3 + 5 + 6);
        imageIs("pairs", x, Texts.image(bytes));
    }

    private static void imageIsNoAct() {
        FireDrill x = Texts.used();
        int acts = x.has(8);
        x.image();
        CHECK.is("has(8)", x.has(8), acts);
        CHECK.is("image() again", x.image(), 2 + 2 + 3 + 6 + 1);
    }

    // 37: "Byte k of the latest image(); NONE when there is none such."

    private static void octetAheadOfAny() {
        FireDrill x = house();
        for (int k = 0; k < 12; k++) {
            CHECK.is("octet(" + k + ") ahead of any", x.octet(k), -1);
        }
    }

    private static void octetWithinTheImage() {
        FireDrill x = house();
        CHECK.is("image()", x.image(), 12);
        CHECK.is("octet(0)", x.octet(0), 0);
        CHECK.is("octet(11)", x.octet(11), Texts.image(0, 0, 3, 12, 0, 0, 0, 0, 0, 0, 0)[11]);
        CHECK.is("octet(12)", x.octet(12), -1);
        for (int k : FAR_OFF) {
            CHECK.is("octet(" + k + ")", x.octet(k), -1);
        }
        CHECK.refused("octet(14)", Texts::used, -1, y -> y.octet(14), -1);
    }

    private static void octetOfTheLatestImage() {
        FireDrill x = house();
        x.image();
        x.post(0, 9);
        x.drills(5);
        CHECK.is("octet(2): as it was", x.octet(2), 3);
        CHECK.is("octet(1): as it was", x.octet(1), 0);
        CHECK.is("on() refused", on(x, 1, 2, 3), false);
        CHECK.is("octet(2) behind it", x.octet(2), 3);
        x.image();
        CHECK.is("octet(2) of the next", x.octet(2), 9);
        CHECK.is("octet(1) of the next", x.octet(1), 5);
        // A shorter image leaves nothing of a longer one.
        Check.tape(x, "room a;");
        CHECK.is("house()", x.house(), 1);
        CHECK.is("image()", x.image(), 3);
        CHECK.is("octet(2)", x.octet(2), 210);
        CHECK.is("octet(3)", x.octet(3), -1);
    }

    // 38: "The tape (it goes) is AN IMAGE of this HOUSE: true, all is as it tells, nothing can be undone"

    private static void onOfItsOwnImage() {
        FireDrill x = Texts.used();
        int[] bytes = new int[x.image()];
        for (int k = 0; k < bytes.length; k++) {
            bytes[k] = x.octet(k);
        }
        FireDrill y = CHECK.house(Texts.SMALL, Texts.SMALL_STATEMENTS);
        CHECK.is("on()", on(y, bytes), true);
        y.image();
        // All but what no image tells: what is seen, and the acts behind it.
        Check.tape(y, 0, 255);
        y.see();
        FireDrill bare = Texts.used();
        CHECK.is("on() of the used one itself", on(bare, bytes), true);
        bare.image();
        CHECK.same("as it tells", y, bare);
        for (int what = 4; what <= 6; what++) {
            CHECK.is("has(" + what + ")", y.has(what), x.has(what));
        }
    }

    // 38: "(DRILLS 999, POSTS 20, SIGNED 9999 at most)"

    private static void onAtTheMost() {
        FireDrill x = house();
        CHECK.is("on()", on(x, Texts.image(3, 231, 20, 20, 1, 39, 15, 39, 15, 39, 15)), true);
        CHECK.is("has(4)", x.has(4), 999);
        CHECK.is("section(0, 0)", x.section(0, 0), 20);
        CHECK.is("section(1, 0)", x.section(1, 0), 20);
        CHECK.is("stair(0, 3)", x.stair(0, 3), 1);
        CHECK.is("has(6)", x.has(6), 3 * 9999);
        CHECK.is("clerk(0, 4)", x.clerk(0, 4), 2 * 9999);
        CHECK.is("status(5)", x.status(5), 0);
    }

    private static void onAtTheLeast() {
        FireDrill x = house();
        x.drills(3);
        x.shut(0, 1);
        CHECK.is("on()", on(x, Texts.image(new int[11])), true);
        CHECK.is("has(4)", x.has(4), 0);
        CHECK.is("section(0, 0)", x.section(0, 0), 0);
        CHECK.is("has(5)", x.has(5), 0);
        CHECK.is("has(6)", x.has(6), 0);
        CHECK.is("on() of no house", on(new FireDrill(), 0, 0, 210), true);
        FireDrill most = new FireDrill();
        CHECK.is("on() of no house at 999", on(most, Texts.image(3, 231)), true);
        CHECK.is("has(4)", most.has(4), 999);
        CHECK.is("on() of no house at 1000", on(most, Texts.image(3, 232)), false);
    }

    // 38: "false, refused (5), when it is none .., all staying"

    private static int[] with(int at, int value) {
        int[] bytes = {0, 0, 3, 12, 0, 0, 0, 0, 0, 0, 0};
        bytes[at] = value;
        return bytes;
    }

    private static void onBeyondTheMost() {
        for (int value = 0; value < 256; value++) {
            CHECK.is("on() with DRILLS of 256 times " + value, on(house(), Texts.image(with(0, value))), value <= 3);
            CHECK.is("on() with a POST of " + value, on(house(), Texts.image(with(2, value))), value <= 20);
            CHECK.is("on() with the last POST of " + value, on(house(), Texts.image(with(3, value))), value <= 20);
            CHECK.is("on() with a STAIR of " + value, on(house(), Texts.image(with(4, value))), value <= 1);
            CHECK.is("on() with SIGNED of 256 times " + value, on(house(), Texts.image(with(5, value))), value <= 39);
            CHECK.is("on() with the last SIGNED of " + value, on(house(), Texts.image(with(9, value))), value <= 39);
            int[] drills = with(0, 3);
            drills[1] = value;
            CHECK.is("on() with DRILLS of 768 and " + value, on(house(), Texts.image(drills)), value <= 231);
            for (int pair = 5; pair <= 9; pair += 2) {
                int[] signed = with(pair, 39);
                signed[pair + 1] = value;
                CHECK.is("on() with SIGNED of 9984 and " + value, on(house(), Texts.image(signed)), value <= 15);
            }
        }
    }

    private static void onOfAnotherLength() {
        for (int length = 0; length <= 30; length++) {
            int[] bytes = new int[length];
            int[] whole = length == 0 ? bytes : Texts.image(Arrays.copyOf(bytes, length - 1));
            FireDrill x = house();
            CHECK.is("on() of " + length + " bytes", on(x, whole), length == 12);
            CHECK.is("status(5)", x.status(5), length == 12 ? 0 : 1);
        }
        int[] image = Texts.image(with(0, 0));
        CHECK.is("on() of an image and a byte more", on(house(), Arrays.copyOf(image, 13)), false);
        CHECK.is("on() of an image but its last byte", on(house(), Arrays.copyOf(image, 11)), false);
        CHECK.is("on() of the longest tape", on(house(), new int[1600]), false);
        // An image of a house with one stair more.
        CHECK.is("on() of another house's image", on(house(), Texts.image(0, 0, 3, 12, 0, 0, 0, 0, 0, 0, 0, 0)), false);
    }

    private static void onWithAnotherLastByte() {
        int[] image = Texts.image(with(1, 7));
        for (int last = 0; last < 256; last++) {
            int[] bytes = image.clone();
            bytes[11] = last;
            CHECK.is("on() with the last byte " + last, on(house(), bytes), last == image[11]);
        }
        for (int k = 0; k < 11; k++) {
            int[] bytes = image.clone();
            bytes[k]++;
            CHECK.is("on() with byte " + k + " changed", on(house(), bytes), false);
        }
    }

    private static void onRefusedLeavesAll() {
        // Of the small house: two sections, three stairs, three clerks.
        int[] good = Texts.image(0, 9, 1, 1, 1, 1, 1, 0, 9, 0, 9, 0, 9);
        CHECK.is("on()", on(Texts.used(), good), true);
        int[][] bad = {
            {}, {0}, {0, 0, 210}, Arrays.copyOf(good, 13), Arrays.copyOf(good, 15),
            Texts.image(3, 232, 1, 1, 1, 1, 1, 0, 9, 0, 9, 0, 9),
            Texts.image(0, 9, 1, 21, 1, 1, 1, 0, 9, 0, 9, 0, 9),
            Texts.image(0, 9, 1, 1, 1, 1, 2, 0, 9, 0, 9, 0, 9),
            Texts.image(0, 9, 1, 1, 1, 1, 1, 0, 9, 0, 9, 39, 16),
        };
        for (int k = 0; k < bad.length; k++) {
            int[] bytes = bad[k];
            CHECK.refused("on() of bad " + k, Texts::used, 5, x -> on(x, bytes) ? 1 : 0, 0);
        }
        int[] wrong = good.clone();
        wrong[13] = (wrong[13] + 1) % 251;
        CHECK.refused("on() with a wrong last byte", Texts::used, 5, x -> on(x, wrong) ? 1 : 0, 0);
    }

    private static void onUndoesNothing() {
        FireDrill x = house();
        for (int k = 1; k <= 20; k++) {
            x.post(0, k % 2 + 5);
        }
        CHECK.is("has(8)", x.has(8), 20);
        CHECK.is("on()", on(x, Texts.image(with(0, 0))), true);
        CHECK.is("has(8)", x.has(8), 0);
        CHECK.is("undo()", x.undo(), false);
        CHECK.is("section(0, 0)", x.section(0, 0), 3);
        x.post(0, 8);
        CHECK.is("has(8) of an act behind it", x.has(8), 1);
        CHECK.is("undo()", x.undo(), true);
        CHECK.is("section(0, 0)", x.section(0, 0), 3);
        CHECK.is("undo()", x.undo(), false);
    }

    private static void onTakesTheTape() {
        FireDrill x = house();
        CHECK.is("on()", on(x, Texts.image(with(0, 0))), true);
        CHECK.is("end(1)", x.end(1), false);
        CHECK.is("on() of nothing", x.on(), false);
        CHECK.is("on() refused", on(x, 1, 2), false);
        CHECK.is("end(1) behind it", x.end(1), false);
        CHECK.is("feed", x.feed(0, 0, 0, 0, 0), 20);
    }

    private static void onLeavesWhatItDoesNotTell() {
        FireDrill x = CHECK.house(Texts.SMALL, Texts.SMALL_STATEMENTS);
        FireDrill twin = CHECK.house(Texts.SMALL, Texts.SMALL_STATEMENTS);
        x.seed(5);
        twin.seed(5);
        Check.tape(x, 0, 255, 1, 0);
        x.see();
        CHECK.is("on()", on(x, Texts.image(0, 0, 0, 2, 0, 0, 0, 0, 0, 0, 0, 0, 0)), true);
        CHECK.is("has(7)", x.has(7), 2);
        for (int k = 0; k < 12; k++) {
            CHECK.is("chance(1): the seed stays", x.chance(1), twin.chance(1));
        }
        CHECK.is("has(0): the house stays", x.has(0), 3);
    }

    // 39: "How many were refused: 0 feed(), end(); 1 house(), see(); 2 post(), shut(); 3 drills(), chance(); 4 undo(); 5 seed(), on()."

    private static void statusIs(String what, FireDrill x, int... due) {
        for (int k = 0; k < 6; k++) {
            CHECK.is(what + ": status(" + k + ")", x.status(k), due[k]);
        }
    }

    private static void statusCountsItsOwn() {
        FireDrill x = house();
        statusIs("at first", x, 0, 0, 0, 0, 0, 0);
        x.end(-1);
        statusIs("end()", x, 1, 0, 0, 0, 0, 0);
        Check.tape(x, " ".repeat(1600));
        x.feed(0, 0, 0, 0, 0);
        statusIs("feed()", x, 2, 0, 0, 0, 0, 0);
        x.see();
        statusIs("see()", x, 2, 1, 0, 0, 0, 0);
        Check.tape(x, "x");
        x.house();
        statusIs("house()", x, 2, 2, 0, 0, 0, 0);
        x.post(0, 3);
        statusIs("post()", x, 2, 2, 1, 0, 0, 0);
        x.shut(0, 0);
        statusIs("shut()", x, 2, 2, 2, 0, 0, 0);
        x.drills(0);
        statusIs("drills()", x, 2, 2, 2, 1, 0, 0);
        x.chance(0);
        statusIs("chance()", x, 2, 2, 2, 2, 0, 0);
        x.undo();
        statusIs("undo()", x, 2, 2, 2, 2, 1, 0);
        x.seed(-1);
        statusIs("seed()", x, 2, 2, 2, 2, 1, 1);
        x.on();
        statusIs("on()", x, 2, 2, 2, 2, 1, 2);
        x.ask();
        x.later(31);
        x.out(9);
        x.octet(-1);
        statusIs("calls that are not counted", x, 2, 2, 2, 2, 1, 2);
        Check.tape(x, HOUSE);
        x.house();
        statusIs("a new house leaves them", x, 2, 2, 2, 2, 1, 2);
        on(x, Texts.image(with(0, 0)));
        statusIs("an image leaves them", x, 2, 2, 2, 2, 1, 2);
    }

    // 39: "NONE for others."

    private static void statusForOthers() {
        FireDrill x = house();
        CHECK.is("status(6)", x.status(6), -1);
        for (int what : FAR_OFF) {
            CHECK.is("status(" + what + ")", x.status(what), -1);
        }
        CHECK.refused("status(6)", Texts::used, -1, y -> y.status(6), -1);
    }
}
