import java.util.Map;
import java.util.function.Supplier;
import java.util.function.ToLongFunction;

/** What the tests share: putting texts on the tape, and counting answers that are not due. */
final class Check {
    private final String name;
    private int asked;
    private int wrong;

    Check(String name) {
        this.name = name;
    }

    void is(String what, long got, long due) {
        asked++;
        if (got != due) {
            wrong++;
            System.out.println(name + ": " + what + " answered " + got + ", due is " + due);
        }
    }

    void is(String what, boolean got, boolean due) {
        is(what, got ? 1 : 0, due ? 1 : 0);
    }

    /** The text is a house with so many statements. */
    FireDrill house(String text, int statements) {
        FireDrill x = new FireDrill();
        tape(x, text);
        is("house() of " + text, x.house(), statements);
        is("fault(0) of " + text, x.fault(0), 0);
        is("fault(1) of " + text, x.fault(1), FireDrill.NONE);
        return x;
    }

    /** The text is a house; each of its statements ends in one ; and there is no other. */
    FireDrill made(String text) {
        return house(text, (int) text.chars().filter(c -> c == ';').count());
    }

    void houseFault(String text, int fault, int place) {
        FireDrill x = new FireDrill();
        tape(x, text);
        is("house() of " + text, x.house(), FireDrill.NONE);
        is("fault(0) of " + text, x.fault(0), fault);
        is("fault(1) of " + text, x.fault(1), place);
        is("status(1) of " + text, x.status(1), 1);
    }

    /** The fault of the text behind the head, its place told from there on. */
    void behind(String head, String text, int fault, int place) {
        houseFault(head + text, fault, head.length() + place);
    }

    void answer(FireDrill x, String question, long due) {
        tape(x, question);
        is("ask() of " + question, x.ask(), due);
        is("fault(0) of " + question, x.fault(0), 0);
        is("fault(1) of " + question, x.fault(1), FireDrill.NONE);
    }

    void askFault(FireDrill x, String question, int fault, int place) {
        tape(x, question);
        is("ask() of " + question, x.ask(), FireDrill.NOTHING);
        is("fault(0) of " + question, x.fault(0), fault);
        is("fault(1) of " + question, x.fault(1), place);
    }

    /** Two objects tell the same of all. */
    void same(String what, FireDrill x, FireDrill twin) {
        Map<String, Long> due = Picture.of(twin).answers;
        Map<String, Long> got = Picture.of(x).answers;
        is(what + ": as many answers", got.size(), due.size());
        for (Map.Entry<String, Long> answer : due.entrySet()) {
            is(what + ": " + answer.getKey(), got.getOrDefault(answer.getKey(), Long.MIN_VALUE), answer.getValue());
        }
    }

    /**
     * A call is refused: it answers so, it is counted under its kind (-1: under none), and in all else the object is as
     * a twin that was not called: what it tells, what is undone one by one, and what the seed draws.
     */
    void refused(String what, Supplier<FireDrill> made, int kind, ToLongFunction<FireDrill> call, long due) {
        FireDrill x = made.get();
        FireDrill twin = made.get();
        is(what, call.applyAsLong(x), due);
        for (int k = 0; k <= 5; k++) {
            is(what + ": status(" + k + ")", x.status(k), twin.status(k) + (k == kind ? 1 : 0));
        }
        is(what + ": on the tape", x.feed(0, 0, 0, 0, 0), twin.feed(0, 0, 0, 0, 0));
        same(what, x, twin);
        is(what + ": drawn", x.chance(9), twin.chance(9));
        for (int k = 0; k <= 21; k++) {
            is(what + ": undo() " + k, x.undo(), twin.undo());
            for (int n = 4; n <= 6; n++) {
                is(what + ": undone " + k + ", has(" + n + ")", x.has(n), twin.has(n));
            }
            is(what + ": undone " + k + ", section(0, 0)", x.section(0, 0), twin.section(0, 0));
            is(what + ": undone " + k + ", section(1, 0)", x.section(1, 0), twin.section(1, 0));
        }
    }

    static void tape(FireDrill x, String text) {
        int[] bytes = new int[text.length()];
        for (int k = 0; k < bytes.length; k++) {
            bytes[k] = text.charAt(k) & 255;
        }
        tape(x, bytes);
    }

    /** Puts the bytes on a tape that is empty. */
    static void tape(FireDrill x, int... bytes) {
        int[] row = new int[5];
        for (int k = 0; k < bytes.length; k += 20) {
            for (int n = 0; n < 5; n++) {
                row[n] = 0;
                for (int b = 0; b < 4; b++) {
                    int at = k + 4 * n + b;
                    row[n] = row[n] << 8 | (at < bytes.length ? bytes[at] & 255 : 0);
                }
            }
            x.feed(row[0], row[1], row[2], row[3], row[4]);
        }
        x.end(bytes.length);
    }

    void finish() {
        System.out.println(name + ": " + asked + " answers, " + wrong + " not as due");
        if (wrong != 0 || asked == 0) {
            System.exit(1);
        }
    }
}
