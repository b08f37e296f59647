/** What the tests share: putting texts on the tape, and counting answers that are not due. */
final class Check {
    private final String name;
    private int asked;
    private int wrong;

    Check(String name) {
        this.name = name;
    }

    void is(String what, long got, long due) {
        asked++;
        if (got != due) {
            wrong++;
            System.out.println(name + ": " + what + " answered " + got + ", due is " + due);
        }
    }

    void is(String what, boolean got, boolean due) {
        is(what, got ? 1 : 0, due ? 1 : 0);
    }

    /** The text is a house with so many statements. */
    FireDrill house(String text, int statements) {
        FireDrill x = new FireDrill();
        tape(x, text);
        is("house() of " + text, x.house(), statements);
        is("fault(0) of " + text, x.fault(0), 0);
        is("fault(1) of " + text, x.fault(1), FireDrill.NONE);
        return x;
    }

    void houseFault(String text, int fault, int place) {
        FireDrill x = new FireDrill();
        tape(x, text);
        is("house() of " + text, x.house(), FireDrill.NONE);
        is("fault(0) of " + text, x.fault(0), fault);
        is("fault(1) of " + text, x.fault(1), place);
        is("status(1) of " + text, x.status(1), 1);
    }

    void answer(FireDrill x, String question, long due) {
        tape(x, question);
        is("ask() of " + question, x.ask(), due);
        is("fault(0) of " + question, x.fault(0), 0);
        is("fault(1) of " + question, x.fault(1), FireDrill.NONE);
    }

    void askFault(FireDrill x, String question, int fault, int place) {
        tape(x, question);
        is("ask() of " + question, x.ask(), FireDrill.NOTHING);
        is("fault(0) of " + question, x.fault(0), fault);
        is("fault(1) of " + question, x.fault(1), place);
    }

    static void tape(FireDrill x, String text) {
        int[] bytes = new int[text.length()];
        for (int k = 0; k < bytes.length; k++) {
            bytes[k] = text.charAt(k) & 255;
        }
        tape(x, bytes);
    }

    /** Puts the bytes on a tape that is empty. */
    static void tape(FireDrill x, int... bytes) {
        int[] row = new int[5];
        for (int k = 0; k < bytes.length; k += 20) {
            for (int n = 0; n < 5; n++) {
                row[n] = 0;
                for (int b = 0; b < 4; b++) {
                    int at = k + 4 * n + b;
                    row[n] = row[n] << 8 | (at < bytes.length ? bytes[at] & 255 : 0);
                }
            }
            x.feed(row[0], row[1], row[2], row[3], row[4]);
        }
        x.end(bytes.length);
    }

    void finish() {
        System.out.println(name + ": " + asked + " answers, " + wrong + " not as due");
        if (wrong != 0 || asked == 0) {
            System.exit(1);
        }
    }
}
