import java.util.function.Supplier;
import java.util.function.ToLongFunction;

/**
 * What each call leaves. The document says of each call what it changes; all else must be as in a twin that was not
 * called. Each part is looked at in objects of its own, so that no look can cover what another one would have shown.
 */
public final class LeavesTest {
    private static final Check CHECK = new Check("LeavesTest");
    private static final int TAPE = 1;
    private static final int FAULT = 2;
    private static final int HOUSE = 4;
    private static final int STATE = 8;
    private static final int SEEN = 16;
    private static final int UNDO = 32;
    private static final int SEED = 64;
    private static final int IMAGE = 128;
    private static final String[] PARTS = {"the tape", "the fault", "the house", "the state", "what is seen", "what can be undone",
        "the seed", "the image"};
    private static final int UNCOUNTED = -1;
    /** It hangs on the house alone: acts leave its answer. */
    private static final String QUESTION = "total bag*pace+number";
    private static final int[] SEEN_ROWS = {0, 255, 1, 0};

    public static void main(String[] args) {
        asMade();
        tape();
        house();
        tellingOfTheHouse();
        tellingOfTheDrill();
        choosing();
        seen();
        acts();
        undoAndSeed();
        questions();
        images();
        newObject();
        CHECK.finish();
    }

    /** The small house with acts, smoke, rows seen, an image, a question's fault, refusals of each kind, and a tape. */
    private static FireDrill full(int... tape) {
        FireDrill x = new FireDrill();
        Check.tape(x, Texts.SMALL);
        x.house();
        x.end(-1);
        x.see();
        x.post(9, 9);
        x.drills(0);
        x.undo();
        x.seed(-1);
        x.seed(5);
        x.post(1, 4);
        x.drills(3);
        x.shut(2, 1);
        x.chance(2);
        Check.tape(x, SEEN_ROWS);
        x.see();
        x.image();
        x.post(0, 1);
        Check.tape(x, "total bag+");
        x.ask();
        Check.tape(x, tape);
        return x;
    }

    /** By hand, so that a call that spoils both the object and its twin is seen, too. */
    private static void asMade() {
        FireDrill x = withQuestion();
        int[] has = {3, 3, 2, 3, 5, 1, 5, 2, 5};
        for (int what = 0; what < has.length; what++) {
            CHECK.is("has(" + what + ")", x.has(what), has[what]);
        }
        for (int what = 0; what <= 5; what++) {
            CHECK.is("status(" + what + ")", x.status(what), 1);
        }
        CHECK.is("fault(0)", x.fault(0), 1);
        CHECK.is("fault(1)", x.fault(1), 10);
        int[] image = Texts.image(0, 5, 0, 4, 0, 0, 1, 0, 0, 0, 5, 0, 0);
        for (int k = 0; k < image.length; k++) {
            CHECK.is("octet(" + k + ")", x.octet(k), image[k]);
        }
        int[] posts = {0, 0, 0, 0, 0};
        int[] drills = {5, 3, 3, 0, 0};
        for (int k = 0; k < 5; k++) {
            CHECK.is("undo() " + k, x.undo(), true);
            CHECK.is("section(0, 0) undone", x.section(0, 0), posts[k]);
            CHECK.is("has(4) undone", x.has(4), drills[k]);
        }
        CHECK.is("undo() of a sixth", x.undo(), false);
        CHECK.is("the question", withQuestion().ask(), 1 + 4 + 3 + 3);
    }

    /** Of this drill, by hand: the first and second meet in nine minutes, the third comes in minute 1 and turns back in minute 7. */
    private static void knownOfTheDrill(String what, Supplier<FireDrill> made, ToLongFunction<FireDrill> call) {
        FireDrill x = made.get();
        call.applyAsLong(x);
        CHECK.is(what + ": couples()", x.couples(), 25);
        CHECK.is(what + ": dear(0, 1)", x.dear(0, 1), 24);
        CHECK.is(what + ": dear(0, 2)", x.dear(0, 2), 20);
        CHECK.is(what + ": later(2)", x.later(2), 11);
        CHECK.is(what + ": back(2)", x.back(2), 7);
        CHECK.is(what + ": signs()", x.signs(), 3);
    }

    private static int[] bytes(String text) {
        return text.chars().toArray();
    }

    private static FireDrill withQuestion() {
        return full(bytes(QUESTION));
    }

    /** A call that changes nothing; asked again it answers the same. */
    private static void pure(String what, ToLongFunction<FireDrill> call) {
        FireDrill x = withQuestion();
        long first = call.applyAsLong(x);
        CHECK.is(what + " again", call.applyAsLong(x), first);
        leaves(what, LeavesTest::withQuestion, call, first, 0, UNCOUNTED);
    }

    private static void refused(String what, ToLongFunction<FireDrill> call, long due, int kind) {
        leaves(what, LeavesTest::withQuestion, call, due, 0, kind);
    }

    /** All but the parts told is as in the twin; what is refused is counted under its kind alone. */
    private static void leaves(String what, Supplier<FireDrill> made, ToLongFunction<FireDrill> call, long due, int changed, int kind) {
        FireDrill called = made.get();
        CHECK.is(what, call.applyAsLong(called), due);
        FireDrill uncalled = made.get();
        for (int k = 0; k <= 5; k++) {
            CHECK.is(what + ": status(" + k + ")", called.status(k), uncalled.status(k) + (k == kind ? 1 : 0));
        }
        if (uncalled.has(8) == 5 && (changed & (HOUSE | STATE)) == 0) {
            knownOfTheDrill(what, made, call);
        }
        for (int part = 0; part < PARTS.length; part++) {
            if ((changed >> part & 1) == 0) {
                FireDrill x = made.get();
                call.applyAsLong(x);
                String got = look(x, 1 << part, changed);
                String twin = look(made.get(), 1 << part, changed);
                boolean same = got.equals(twin);
                CHECK.is(what + " leaves " + PARTS[part] + (same ? "" : " (" + got + " for " + twin + ")"), same, true);
            }
        }
    }

    private static String look(FireDrill x, int part, int changed) {
        StringBuilder seen = new StringBuilder();
        switch (part) {
            case TAPE:
                int length = x.feed(0, 0, 0, 0, 0) - 20;
                x.end(Math.max(0, length));
                seen.append(length).append(' ').append(x.ask()).append(' ').append(x.fault(0)).append(' ').append(x.fault(1));
                break;
            case FAULT:
                seen.append(x.fault(0)).append(' ').append(x.fault(1));
                break;
            case HOUSE:
                lookAtHouse(x, seen);
                break;
            case STATE:
                lookAtState(x, seen);
                // What is told of this drill hangs on the house's formulas and numbers, too.
                lookAtDrill(x, seen);
                break;
            case SEEN:
                seen.append(x.has(7));
                if ((changed & (STATE | HOUSE)) == 0) {
                    seen.append(' ').append(x.shuts(0)).append(' ').append(x.shuts(1)).append(' ').append(x.whom(0)).append(' ').append(x.whom(1));
                }
                break;
            case UNDO:
                lookAtPast(x, seen);
                break;
            case SEED:
                for (int k = 0; k < 24; k++) {
                    seen.append(x.chance(1)).append(' ');
                }
                break;
            default:
                for (int k = -1; k <= 16; k++) {
                    seen.append(x.octet(k)).append(' ');
                }
        }
        return seen.toString();
    }

    private static void lookAtHouse(FireDrill x, StringBuilder seen) {
        for (int what = 0; what <= 3; what++) {
            seen.append(x.has(what)).append(' ');
        }
        for (int which = 0; which < 4; which++) {
            for (int kind = 0; kind < 3; kind++) {
                seen.append(x.letter(kind, which, 0)).append(' ').append(x.letter(kind, which, 1)).append(' ');
            }
            for (int what = 0; what <= 2; what++) {
                seen.append(x.stair(which, what)).append(' ');
            }
            for (int what = 0; what <= 3; what++) {
                seen.append(x.clerk(which, what)).append(' ');
            }
            seen.append(x.section(which, 1)).append(' ');
        }
    }

    private static void lookAtState(FireDrill x, StringBuilder seen) {
        for (int what = 4; what <= 6; what++) {
            seen.append(x.has(what)).append(' ');
        }
        for (int which = 0; which < 4; which++) {
            seen.append(x.stair(which, 3)).append(' ').append(x.section(which, 0)).append(' ').append(x.far(which)).append(' ');
            for (int other = 0; other < which; other++) {
                seen.append(x.signed(which, other)).append(' ');
            }
        }
    }

    private static void lookAtDrill(FireDrill x, StringBuilder seen) {
        for (int one = 0; one < 3; one++) {
            seen.append(x.out(one)).append(' ').append(x.back(one)).append(' ').append(x.where(one, 8)).append(' ');
            for (int other = 0; other < one; other++) {
                seen.append(x.meets(one, other)).append(' ').append(x.dear(one, other)).append(' ');
            }
        }
        seen.append(x.signs()).append(' ').append(x.posts(-1)).append(' ').append(x.couples()).append(' ').append(x.later(2));
    }

    private static void lookAtPast(FireDrill x, StringBuilder seen) {
        seen.append(x.has(8)).append(' ');
        for (int k = 0; k <= 6; k++) {
            seen.append(x.undo()).append(' ');
            int count = x.image();
            for (int at = 0; at < count; at++) {
                seen.append(x.octet(at)).append(' ');
            }
        }
    }

    // 2, 3: bytes come behind those on the tape; the tape has its first n bytes alone

    private static void tape() {
        int length = QUESTION.length();
        leaves("feed()", LeavesTest::withQuestion, x -> x.feed(1, 2, 3, 4, 5), length + 20, TAPE, UNCOUNTED);
        leaves("end(5)", LeavesTest::withQuestion, x -> x.end(5) ? 1 : 0, 1, TAPE, UNCOUNTED);
        leaves("end() of all", LeavesTest::withQuestion, x -> x.end(length) ? 1 : 0, 1, 0, UNCOUNTED);
        refused("end(-1)", x -> x.end(-1) ? 1 : 0, 0, 0);
        refused("end() of more", x -> x.end(length + 1) ? 1 : 0, 0, 0);
        String most = QUESTION + " ".repeat(1600 - length);
        leaves("feed() beyond 1600", () -> full(bytes(most)), x -> x.feed(1, 2, 3, 4, 5), -1, 0, 0);
        leaves("feed() a byte beyond 1600", () -> full(bytes(most.substring(0, 1581))), x -> x.feed(1, 2, 3, 4, 5), -1, 0, 0);
    }

    // 4: with a FAULT all stays; without one all is as at first, nothing is SEEN or can be undone; the seed stays

    private static void house() {
        leaves("house() with a fault", () -> full(bytes("room z;hears 21;")), FireDrill::house, -1, TAPE | FAULT, 1);
        leaves("house() of the same text", () -> full(bytes(Texts.SMALL)), FireDrill::house, Texts.SMALL_STATEMENTS,
            TAPE | FAULT | STATE | SEEN | UNDO, UNCOUNTED);
        // Another house, of which the seed draws likewise.
        leaves("house() of another text", () -> full(bytes("room z;room y;stair z to y wide 4;stair y to x")), FireDrill::house, -1,
            TAPE | FAULT, 1);
        leaves("house() of a lesser text", () -> full(bytes("room z;room y;stair z to y wide 4;smoke 50;")), x -> x.house(), 4,
            TAPE | FAULT | HOUSE | STATE | SEEN | UNDO, UNCOUNTED);
    }

    // 5 to 12, 39: what is there, told

    private static void tellingOfTheHouse() {
        for (int k = -1; k <= 9; k++) {
            int what = k;
            pure("has(" + what + ")", x -> x.has(what));
            pure("fault(" + what + ")", x -> x.fault(what));
            pure("status(" + what + ")", x -> x.status(what));
            pure("far(" + what + ")", x -> x.far(what));
            pure("stair(1, " + what + ")", x -> x.stair(1, what));
            pure("stair(" + what + ", 3)", x -> x.stair(what, 3));
            pure("section(0, " + what + ")", x -> x.section(0, what));
            pure("section(" + what + ", 0)", x -> x.section(what, 0));
            pure("clerk(2, " + what + ")", x -> x.clerk(2, what));
            pure("clerk(" + what + ", 4)", x -> x.clerk(what, 4));
            pure("signed(0, " + what + ")", x -> x.signed(0, what));
            pure("letter(" + what + ", 0, 0)", x -> x.letter(what, 0, 0));
            pure("letter(0, " + what + ", 0)", x -> x.letter(0, what, 0));
            pure("letter(0, 0, " + what + ")", x -> x.letter(0, 0, what));
        }
    }

    // 13 to 18: this drill is told, not held

    private static void tellingOfTheDrill() {
        for (int k = -1; k <= 3; k++) {
            int clerk = k;
            pure("out(" + clerk + ")", x -> x.out(clerk));
            pure("back(" + clerk + ")", x -> x.back(clerk));
            pure("where(" + clerk + ", 8)", x -> x.where(clerk, 8));
            pure("where(0, " + (clerk + 6) + ")", x -> x.where(0, clerk + 6));
            pure("meets(0, " + clerk + ")", x -> x.meets(0, clerk));
        }
        pure("empty()", FireDrill::empty);
        pure("signs()", FireDrill::signs);
    }

    // 19 to 25: posts, stairs and couples are found, not given; drills ahead are not held

    private static void choosing() {
        for (int k = -2; k <= 3; k++) {
            int which = k;
            pure("posts(" + which + ")", x -> x.posts(which));
            pure("dear(0, " + which + ")", x -> x.dear(0, which));
            pure("with(" + which + ")", x -> x.with(which));
            pure("later(" + which + ")", x -> x.later(which));
        }
        pure("later(30)", x -> x.later(30));
        pure("later(31)", x -> x.later(31));
        pure("wider()", FireDrill::wider);
        pure("wardens()", FireDrill::wardens);
        pure("couples()", FireDrill::couples);
    }

    // 26 to 28: the tape goes, what is seen is told anew; refused, all stays

    private static void seen() {
        leaves("see()", () -> full(1, 0), FireDrill::see, 1, TAPE | SEEN, UNCOUNTED);
        leaves("see() of the same", () -> full(SEEN_ROWS), FireDrill::see, 2, TAPE, UNCOUNTED);
        leaves("see() of nothing", LeavesTest::full, FireDrill::see, -1, 0, 1);
        leaves("see() of no such clerk", () -> full(1, 0, 3, 0), FireDrill::see, -1, TAPE, 1);
        leaves("see() of no such OUT", () -> full(1, 0, 2, 9), FireDrill::see, -1, TAPE, 1);
        leaves("see() of half a row", () -> full(1, 0, 2), FireDrill::see, -1, TAPE, 1);
        leaves("see() of too many", () -> full(new int[34]), FireDrill::see, -1, TAPE, 1);
        for (int k = -1; k <= 2; k++) {
            int what = k;
            pure("shuts(" + what + ")", x -> x.shuts(what));
            pure("whom(" + what + ")", x -> x.whom(what));
        }
    }

    // 29 to 32: an act changes its own, and can be undone; refused, it changes nothing

    private static void acts() {
        leaves("post(1, 9)", LeavesTest::withQuestion, x -> x.post(1, 9) ? 1 : 0, 1, STATE | UNDO, UNCOUNTED);
        leaves("shut(0, 1)", LeavesTest::withQuestion, x -> x.shut(0, 1) ? 1 : 0, 1, STATE | UNDO, UNCOUNTED);
        leaves("shut(2, 0)", LeavesTest::withQuestion, x -> x.shut(2, 0) ? 1 : 0, 1, STATE | UNDO, UNCOUNTED);
        leaves("drills(2)", LeavesTest::withQuestion, x -> x.drills(2), 6, STATE | UNDO, UNCOUNTED);
        leaves("chance(9)", LeavesTest::withQuestion, x -> x.chance(9), 4, STATE | UNDO | SEED, UNCOUNTED);
        refused("post(0, 1)", x -> x.post(0, 1) ? 1 : 0, 0, 2);
        refused("post(0, 21)", x -> x.post(0, 21) ? 1 : 0, 0, 2);
        refused("post(2, 1)", x -> x.post(2, 1) ? 1 : 0, 0, 2);
        refused("shut(2, 1)", x -> x.shut(2, 1) ? 1 : 0, 0, 2);
        refused("shut(0, 0)", x -> x.shut(0, 0) ? 1 : 0, 0, 2);
        refused("shut(3, 1)", x -> x.shut(3, 1) ? 1 : 0, 0, 2);
        refused("shut(0, 2)", x -> x.shut(0, 2) ? 1 : 0, 0, 2);
        for (int n : new int[] {-1, 0, 31}) {
            refused("drills(" + n + ")", x -> x.drills(n), -1, 3);
            refused("chance(" + n + ")", x -> x.chance(n), -1, 3);
        }
        // Each act undone leaves nothing of itself but, of chance, the seed.
        leaves("post() undone", LeavesTest::withQuestion, x -> x.post(1, 9) && x.undo() ? 1 : 0, 1, 0, UNCOUNTED);
        leaves("shut() undone", LeavesTest::withQuestion, x -> x.shut(0, 1) && x.undo() ? 1 : 0, 1, 0, UNCOUNTED);
        leaves("drills() undone", LeavesTest::withQuestion, x -> x.drills(7) > 0 && x.undo() ? 1 : 0, 1, 0, UNCOUNTED);
        leaves("chance() undone", LeavesTest::withQuestion, x -> x.chance(7) >= 0 && x.undo() ? 1 : 0, 1, SEED, UNCOUNTED);
    }

    // 33, 34: the latest act is undone, the seed stays; the seed alone

    private static void undoAndSeed() {
        leaves("undo()", LeavesTest::withQuestion, x -> x.undo() ? 1 : 0, 1, STATE | UNDO, UNCOUNTED);
        leaves("undo() of chance()", () -> undone(1), x -> x.undo() ? 1 : 0, 1, STATE | UNDO, UNCOUNTED);
        leaves("undo() of none", () -> undone(5), x -> x.undo() ? 1 : 0, 0, 0, 4);
        leaves("seed(9)", LeavesTest::withQuestion, x -> x.seed(9) ? 1 : 0, 1, SEED, UNCOUNTED);
        refused("seed(-1)", x -> x.seed(-1) ? 1 : 0, 0, 5);
    }

    private static FireDrill undone(int times) {
        FireDrill x = withQuestion();
        for (int k = 0; k < times; k++) {
            x.undo();
        }
        return x;
    }

    // 35: the tape goes, and the fault is this question's; it is not counted

    private static void questions() {
        leaves("ask()", () -> full(bytes("total bag")), FireDrill::ask, 6, TAPE | FAULT, UNCOUNTED);
        leaves("ask() with a fault", () -> full(bytes("total bag;")), FireDrill::ask, FireDrill.NOTHING, TAPE | FAULT, UNCOUNTED);
        leaves("ask() of the same fault", () -> full(bytes("total bag+")), FireDrill::ask, FireDrill.NOTHING, TAPE, UNCOUNTED);
        leaves("ask() of a test", () -> full(bytes("first out>99")), FireDrill::ask, -1, TAPE | FAULT, UNCOUNTED);
    }

    // 36 to 38: an image is written, or all is as it tells and nothing can be undone; refused, all stays

    private static void images() {
        leaves("image()", LeavesTest::withQuestion, FireDrill::image, 14, IMAGE, UNCOUNTED);
        for (int k : new int[] {-1, 0, 13, 14}) {
            pure("octet(" + k + ")", x -> x.octet(k));
        }
        int[] image = Texts.image(0, 9, 20, 0, 1, 0, 1, 0, 7, 0, 0, 39, 15);
        leaves("on()", () -> full(image), x -> x.on() ? 1 : 0, 1, TAPE | STATE | UNDO, UNCOUNTED);
        int[] wrong = image.clone();
        wrong[13]++;
        leaves("on() with a wrong last byte", () -> full(wrong), x -> x.on() ? 1 : 0, 0, TAPE, 5);
        leaves("on() of nothing", LeavesTest::full, x -> x.on() ? 1 : 0, 0, 0, 5);
        leaves("on() of a post of 21", () -> full(Texts.image(0, 9, 21, 0, 1, 0, 1, 0, 7, 0, 0, 39, 15)), x -> x.on() ? 1 : 0, 0, TAPE, 5);
    }

    // 1: no house, no clerks

    private static void newObject() {
        Supplier<FireDrill> made = FireDrill::new;
        leaves("feed() of a new object", made, x -> x.feed(0, 0, 0, 0, 0), 20, TAPE, UNCOUNTED);
        leaves("house() of a new object", made, FireDrill::house, 0, 0, UNCOUNTED);
        leaves("drills(1) of a new object", made, x -> x.drills(1), 0, STATE | UNDO, UNCOUNTED);
        leaves("chance(1) of a new object", made, x -> x.chance(1), 0, STATE | UNDO, UNCOUNTED);
        leaves("image() of a new object", made, FireDrill::image, 3, IMAGE, UNCOUNTED);
        leaves("see() of a new object", made, FireDrill::see, -1, 0, 1);
        leaves("on() of a new object", made, x -> x.on() ? 1 : 0, 0, 0, 5);
        leaves("ask() of a new object", made, FireDrill::ask, FireDrill.NOTHING, FAULT, UNCOUNTED);
        leaves("undo() of a new object", made, x -> x.undo() ? 1 : 0, 0, 0, 4);
        leaves("post(0, 0) of a new object", made, x -> x.post(0, 0) ? 1 : 0, 0, 0, 2);
        leaves("shut(0, 1) of a new object", made, x -> x.shut(0, 1) ? 1 : 0, 0, 0, 2);
        leaves("seed(7) of a new object", made, x -> x.seed(7) ? 1 : 0, 1, SEED, UNCOUNTED);
        leaves("later(30) of a new object", made, x -> x.later(30), 0, 0, UNCOUNTED);
    }
}
