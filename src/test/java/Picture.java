import java.util.LinkedHashMap;
import java.util.Map;

/** All that calls tell of an object without changing it: held against another picture, it shows what a call changed. */
final class Picture {
    final Map<String, Long> answers = new LinkedHashMap<>();
    private final FireDrill x;

    private Picture(FireDrill x) {
        this.x = x;
    }

    /** Without the fault, the tape and what was refused: those a refused call may change. */
    static Picture of(FireDrill x) {
        Picture p = new Picture(x);
        for (int what = 0; what <= 8; what++) {
            p.add("has(" + what + ")", x.has(what));
        }
        p.addHouse();
        p.addClerks();
        p.addPairs();
        p.addChoices();
        for (int k = 0; k <= 12; k++) {
            p.add("octet(" + k + ")", x.octet(k));
        }
        return p;
    }

    private void add(String call, long answer) {
        answers.put(call, answer);
    }

    private void addHouse() {
        for (int room = 0; room <= x.has(0); room++) {
            add("letter(0, " + room + ", 0)", x.letter(0, room, 0));
            add("far(" + room + ")", x.far(room));
        }
        for (int stair = 0; stair <= x.has(1); stair++) {
            for (int what = 0; what < 4; what++) {
                add("stair(" + stair + ", " + what + ")", x.stair(stair, what));
            }
        }
        for (int section = 0; section <= x.has(2); section++) {
            add("letter(1, " + section + ", 0)", x.letter(1, section, 0));
            add("section(" + section + ", 0)", x.section(section, 0));
            add("section(" + section + ", 1)", x.section(section, 1));
        }
    }

    private void addClerks() {
        for (int clerk = 0; clerk <= x.has(3); clerk++) {
            add("letter(2, " + clerk + ", 0)", x.letter(2, clerk, 0));
            for (int what = 0; what < 5; what++) {
                add("clerk(" + clerk + ", " + what + ")", x.clerk(clerk, what));
            }
            add("out(" + clerk + ")", x.out(clerk));
            add("back(" + clerk + ")", x.back(clerk));
            add("with(" + clerk + ")", x.with(clerk));
            for (int minute = 0; minute <= 8; minute += 4) {
                add("where(" + clerk + ", " + minute + ")", x.where(clerk, minute));
            }
        }
    }

    private void addPairs() {
        for (int one = 0; one < x.has(3); one++) {
            for (int other = one + 1; other < x.has(3); other++) {
                String pair = "(" + one + ", " + other + ")";
                add("signed" + pair, x.signed(one, other));
                add("meets" + pair, x.meets(one, other));
                add("dear" + pair, x.dear(one, other));
            }
        }
    }

    private void addChoices() {
        add("empty()", x.empty());
        add("signs()", x.signs());
        for (int section = -1; section <= x.has(2); section++) {
            add("posts(" + section + ")", x.posts(section));
        }
        add("wider()", x.wider());
        add("wardens()", x.wardens());
        add("couples()", x.couples());
        add("later(2)", x.later(2));
        for (int what = 0; what < 2; what++) {
            add("shuts(" + what + ")", x.shuts(what));
            add("whom(" + what + ")", x.whom(what));
        }
    }
}
