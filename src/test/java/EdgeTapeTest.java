/** Promises 1 to 3, bound by bound: what a new object answers, and how the tape is fed and cut. */
public final class EdgeTapeTest {
    private static final Check CHECK = new Check("EdgeTapeTest");
    private static final int LEAST = Integer.MIN_VALUE;
    private static final int MOST = Integer.MAX_VALUE;

    public static void main(String[] args) {
        newObjectHasNothing();
        newObjectHasNoDrillToTell();
        newObjectTakesActs();
        newObjectRefuses();
        feedPutsTheHighestByteFirst();
        feedComesBehindWhatIsThere();
        feedTakesAnyByte();
        feedTo1600();
        feedBeyond1600LeavesTheTape();
        endWithinTheTape();
        endBeyondTheTapeIsRefused();
        endCutsTheRestOff();
        CHECK.finish();
    }

    // 1: "No house, no clerks."

    private static void newObjectHasNothing() {
        FireDrill x = new FireDrill();
        for (int what = 0; what <= 8; what++) {
            CHECK.is("has(" + what + ") at first", x.has(what), 0);
        }
        for (int kind = 0; kind <= 2; kind++) {
            CHECK.is("letter(" + kind + ", 0, 0) at first", x.letter(kind, 0, 0), -1);
        }
        for (int what = 0; what <= 4; what++) {
            CHECK.is("stair(0, " + what + ") at first", x.stair(0, what), -1);
            CHECK.is("section(0, " + what + ") at first", x.section(0, what), -1);
            CHECK.is("clerk(0, " + what + ") at first", x.clerk(0, what), -1);
        }
        CHECK.is("far(0) at first: not even a lawn", x.far(0), -1);
        CHECK.is("signed(0, 1) at first", x.signed(0, 1), -1);
        CHECK.is("fault(0) ahead of any", x.fault(0), 0);
        CHECK.is("fault(1) ahead of any", x.fault(1), -1);
        CHECK.is("octet(0) ahead of any image", x.octet(0), -1);
        CHECK.is("image() at first", x.image(), 3);
        for (int what = 0; what <= 5; what++) {
            CHECK.is("status(" + what + ") at first", x.status(what), 0);
        }
    }

    private static void newObjectHasNoDrillToTell() {
        FireDrill x = new FireDrill();
        CHECK.is("out(0) at first", x.out(0), -2);
        CHECK.is("back(0) at first", x.back(0), -1);
        CHECK.is("where(0, 0) at first", x.where(0, 0), -1);
        CHECK.is("meets(0, 1) at first", x.meets(0, 1), -1);
        CHECK.is("empty() at first: nobody is inside", x.empty(), -1);
        CHECK.is("signs() at first", x.signs(), 0);
        CHECK.is("posts(-1) at first", x.posts(-1), 0);
        CHECK.is("posts(0) at first", x.posts(0), -1);
        CHECK.is("wider() at first", x.wider(), -1);
        CHECK.is("wardens() at first", x.wardens(), 0);
        CHECK.is("dear(0, 1) at first", x.dear(0, 1), FireDrill.NOTHING);
        CHECK.is("couples() at first", x.couples(), 0);
        CHECK.is("with(0) at first", x.with(0), -1);
        CHECK.is("later(0) at first", x.later(0), 0);
        CHECK.is("later(30) at first", x.later(30), 0);
        CHECK.is("shuts(0) at first", x.shuts(0), 0);
        CHECK.is("shuts(1) at first: that none was shut can be", x.shuts(1), 1);
        CHECK.is("whom(0) at first", x.whom(0), -1);
        CHECK.is("whom(1) at first", x.whom(1), -1);
    }

    private static void newObjectTakesActs() {
        FireDrill x = new FireDrill();
        CHECK.is("drills(30) at first", x.drills(30), 0);
        CHECK.is("chance(30) at first", x.chance(30), 0);
        CHECK.is("has(4)", x.has(4), 60);
        CHECK.is("has(8)", x.has(8), 2);
        CHECK.is("undo()", x.undo(), true);
        CHECK.is("undo()", x.undo(), true);
        CHECK.is("has(4) undone", x.has(4), 0);
        CHECK.is("seed(0) at first", x.seed(0), true);
        CHECK.is("house() of no text", x.house(), 0);
    }

    private static void newObjectRefuses() {
        FireDrill x = new FireDrill();
        CHECK.is("end(1) at first", x.end(1), false);
        CHECK.is("see() at first", x.see(), -1);
        CHECK.is("post(0, 0) at first", x.post(0, 0), false);
        CHECK.is("shut(0, 1) at first", x.shut(0, 1), false);
        CHECK.is("drills(0) at first", x.drills(0), -1);
        CHECK.is("undo() at first", x.undo(), false);
        CHECK.is("on() at first", x.on(), false);
        for (int what = 0; what <= 5; what++) {
            CHECK.is("status(" + what + ") of one each", x.status(what), what == 2 ? 2 : 1);
        }
        CHECK.is("ask() of no text", x.ask(), FireDrill.NOTHING);
        CHECK.is("fault(0) of no question", x.fault(0), 1);
        CHECK.is("fault(1) of no question", x.fault(1), 0);
    }

    // 2: "Twenty bytes come behind those on the tape, of each number the highest first: how many there are"

    private static void feedPutsTheHighestByteFirst() {
        FireDrill x = new FireDrill();
        // "room" " abc" "d;ro" "om e" "fgh;"
        CHECK.is("feed", x.feed(0x726f6f6d, 0x20616263, 0x643b726f, 0x6f6d2065, 0x6667683b), 20);
        CHECK.is("house()", x.house(), 2);
        for (int k = 0; k < 4; k++) {
            CHECK.is("letter(0, 0, " + k + ")", x.letter(0, 0, k), k + 1);
            CHECK.is("letter(0, 1, " + k + ")", x.letter(0, 1, k), k + 5);
        }
    }

    private static void feedComesBehindWhatIsThere() {
        FireDrill x = new FireDrill();
        // "hears 1;" twice and "room", then " a;" and blanks.
        CHECK.is("feed", x.feed(0x68656172, 0x7320313b, 0x68656172, 0x7320313b, 0x726f6f6d), 20);
        CHECK.is("feed behind it", x.feed(0x20613b20, 0x20202020, 0x20202020, 0x20202020, 0x20202020), 40);
        CHECK.is("end(23)", x.end(23), true);
        CHECK.is("feed behind 23", x.feed(0x20202020, 0x20202020, 0x20202020, 0x20202020, 0x2020203b), 43);
        CHECK.is("end(42)", x.end(42), true);
        CHECK.is("house()", x.house(), 3);
    }

    private static void feedTakesAnyByte() {
        for (int b = 0; b < 256; b++) {
            FireDrill x = new FireDrill();
            boolean blank = b == 10 || b == 32;
            Check.tape(x, b, 'r', 'o', 'o', 'm', ' ', 'a', ';');
            CHECK.is("house() with byte " + b, x.house(), blank ? 1 : -1);
            CHECK.is("fault(0) with byte " + b, x.fault(0), blank ? 0 : 1);
            CHECK.is("fault(1) with byte " + b, x.fault(1), blank ? -1 : 0);
        }
        // The highest bit of a number is no sign: DRILLS 999, and the last byte 199.
        FireDrill y = new FireDrill();
        y.feed(0x03e7c700, 0, 0, 0, 0);
        y.end(3);
        CHECK.is("on() with bytes above 127", y.on(), true);
        CHECK.is("has(4)", y.has(4), 999);
    }

    // 2: "NONE, refused (0), if there would be more than 1600."

    private static void feedTo1600() {
        FireDrill x = new FireDrill();
        for (int k = 1; k <= 80; k++) {
            CHECK.is("feed " + k, x.feed(0x20202020, 0x20202020, 0x20202020, 0x20202020, 0x20202020), 20 * k);
        }
        CHECK.is("status(0) at 1600", x.status(0), 0);
        CHECK.is("feed beyond 1600", x.feed(0, 0, 0, 0, 0), -1);
        CHECK.is("status(0)", x.status(0), 1);
        CHECK.is("end(1581)", x.end(1581), true);
        CHECK.is("feed to 1601", x.feed(0, 0, 0, 0, 0), -1);
        CHECK.is("status(0)", x.status(0), 2);
        CHECK.is("end(1580)", x.end(1580), true);
        CHECK.is("feed to 1600", x.feed(0, 0, 0, 0, 0), 1600);
        CHECK.is("status(0)", x.status(0), 2);
        CHECK.is("end(0)", x.end(0), true);
        CHECK.is("feed to 20", x.feed(0, 0, 0, 0, 0), 20);
    }

    private static void feedBeyond1600LeavesTheTape() {
        int[] lengths = {1581, 1590, 1599, 1600};
        for (int length : lengths) {
            FireDrill x = new FireDrill();
            String text = " ".repeat(length - 7) + "room a;";
            Check.tape(x, text);
            CHECK.is("feed behind " + length, x.feed(0x3b3b3b3b, 0x3b3b3b3b, 0x3b3b3b3b, 0x3b3b3b3b, 0x3b3b3b3b), -1);
            CHECK.is("status(0)", x.status(0), 1);
            for (int what = 1; what <= 5; what++) {
                CHECK.is("status(" + what + ")", x.status(what), 0);
            }
            CHECK.is("end one behind the tape", x.end(length + 1), false);
            CHECK.is("end of the whole tape", x.end(length), true);
            CHECK.is("house() of the tape as it was", x.house(), 1);
            CHECK.is("fault(0)", x.fault(0), 0);
        }
    }

    // 3: "The tape has its first n bytes alone: true; false, refused (0), if it has not so many, or n is below 0."

    private static void endWithinTheTape() {
        FireDrill x = new FireDrill();
        CHECK.is("end(0) of an empty tape", x.end(0), true);
        x.feed(0, 0, 0, 0, 0);
        CHECK.is("end(20) of 20", x.end(20), true);
        CHECK.is("end(20) of 20 again", x.end(20), true);
        CHECK.is("end(19) of 20", x.end(19), true);
        CHECK.is("end(1) of 19", x.end(1), true);
        CHECK.is("end(0) of 1", x.end(0), true);
        CHECK.is("status(0)", x.status(0), 0);
        Check.tape(x, " ".repeat(1600));
        CHECK.is("end(1600) of 1600", x.end(1600), true);
        CHECK.is("end(1601) of 1600", x.end(1601), false);
    }

    private static void endBeyondTheTapeIsRefused() {
        int[] wrong = {8, 20, 1600, MOST, -1, -7, LEAST};
        for (int n : wrong) {
            FireDrill x = new FireDrill();
            Check.tape(x, "room a;");
            CHECK.is("end(" + n + ") of 7", x.end(n), false);
            CHECK.is("status(0)", x.status(0), 1);
            for (int what = 1; what <= 5; what++) {
                CHECK.is("status(" + what + ")", x.status(what), 0);
            }
            CHECK.is("house() of the tape as it was", x.house(), 1);
        }
        FireDrill empty = new FireDrill();
        CHECK.is("end(1) of an empty tape", empty.end(1), false);
        CHECK.is("end(-1) of an empty tape", empty.end(-1), false);
        CHECK.is("status(0)", empty.status(0), 2);
    }

    private static void endCutsTheRestOff() {
        FireDrill x = new FireDrill();
        Check.tape(x, "room a;room b;");
        CHECK.is("end(7)", x.end(7), true);
        CHECK.is("end(8): it is gone", x.end(8), false);
        CHECK.is("house()", x.house(), 1);
        CHECK.is("has(0)", x.has(0), 1);
        CHECK.is("end(1): house() took the tape", x.end(1), false);
    }
}
