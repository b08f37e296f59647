/** A house told as a text, its fire drills, and who signs, waits, turns back and is dear to whom in them. */
public final class FireDrill {
    public static final int NONE = -1;
    public static final long NOTHING = -1000000000000000L;

    private static final int ROOMS = 8;
    private static final int STAIRS = 10;
    private static final int SECTIONS = 5;
    private static final int CLERKS = 8;
    private static final int PAIRS = 28;
    private static final int MINUTES = 9;
    private static final int LAWN = 0;
    private static final int NEVER = 99;
    private static final int LONGEST_TEXT = 1600;
    private static final int HIGHEST_POST = 20;
    private static final int MOST_DRILLS = 999;
    private static final int MOST_SIGNED = 9999;
    private static final int MOST_AT_ONCE = 30;

    private static final String QUESTIONS = "first last often total most least";
    private static final int FIRST = 0;
    private static final int OFTEN = 2;
    private static final int TOTAL = 3;
    private static final int MOST = 4;
    private static final String QUESTION_LEAVES = "pace bag drill number post out signed";

    private final Text text;
    private final Formula formula;
    private final HouseReader reader;
    private House house;
    private House spare;
    private final State now;
    private final History history;
    private final Drill drill;
    private final Posting posting;
    private final Coupling coupling;
    private final Suspects suspects;
    private final Program question;
    private final int[] leaves;
    private final int[] octets;
    private int octetCount;
    private final int[] refused;
    private int seedNow;
    private final int[] kept;

    public FireDrill() {
        text = new Text();
        question = new Program();
        formula = new Formula(text, question);
        reader = new HouseReader(text, formula);
        house = new House();
        spare = new House();
        now = new State();
        history = new History();
        drill = new Drill();
        posting = new Posting();
        coupling = new Coupling();
        suspects = new Suspects();
        leaves = new int[7];
        octets = new int[State.MOST_OCTETS];
        refused = new int[6];
        seedNow = 1;
        kept = new int[State.CELLS];
    }

    // ---- the tape and the house

    public int feed(int a, int b, int c, int d, int e) {
        if (text.length + 20 > LONGEST_TEXT) {
            return refuse(0);
        }
        text.add(a);
        text.add(b);
        text.add(c);
        text.add(d);
        text.add(e);
        return text.length;
    }

    public boolean end(int n) {
        if (n < 0 || n > text.length) {
            return deny(0);
        }
        text.length = n;
        return true;
    }

    public int house() {
        int statements = reader.readHouse(spare);
        text.length = 0;
        if (statements == NONE) {
            return refuse(1);
        }
        House told = spare;
        spare = house;
        house = told;
        now.begin(house);
        history.count = 0;
        suspects.rows = 0;
        return statements;
    }

    public int fault(int what) {
        if (what == 0) {
            return text.fault;
        }
        return what == 1 ? text.place : NONE;
    }

    public int has(int what) {
        switch (what) {
            case 0: return house.rooms;
            case 1: return house.stairs;
            case 2: return house.sections;
            case 3: return house.clerks;
            case 4: return now.drills;
            case 5: return now.countShut();
            case 6: return now.countSigned();
            case 7: return suspects.rows;
            case 8: return history.count;
            default: return NONE;
        }
    }

    public int letter(int kind, int which, int k) {
        if (k < 0 || k >= Text.NAME_LETTERS) {
            return NONE;
        }
        switch (kind) {
            case 0: return isIn(which, house.rooms) ? letterOf(house.roomNames[which], k) : NONE;
            case 1: return isIn(which, house.sections) ? letterOf(house.sectionNames[which], k) : NONE;
            case 2: return isIn(which, house.clerks) ? letterOf(house.clerkNames[which], k) : NONE;
            default: return NONE;
        }
    }

    public int far(int room) {
        if (!isIn(room, house.rooms)) {
            return NONE;
        }
        drill.prepare(house, now, NONE, NONE);
        return drill.fars[room];
    }

    public int stair(int stair, int what) {
        if (!isIn(stair, house.stairs)) {
            return NONE;
        }
        switch (what) {
            case 0: return house.stairOne[stair];
            case 1: return house.stairOther[stair];
            case 2: return house.stairWide[stair];
            case 3: return now.shut[stair];
            default: return NONE;
        }
    }

    public int section(int section, int what) {
        if (!isIn(section, house.sections)) {
            return NONE;
        }
        if (what == 0) {
            return now.posts[section];
        }
        return what == 1 ? house.clerksOf(section) : NONE;
    }

    public int clerk(int clerk, int what) {
        if (!isIn(clerk, house.clerks)) {
            return NONE;
        }
        switch (what) {
            case 0: return house.clerkRoom[clerk];
            case 1: return house.clerkSection[clerk];
            case 2: return house.clerkPace[clerk];
            case 3: return house.clerkBag[clerk];
            case 4: return now.signedOf(clerk, house.clerks);
            default: return NONE;
        }
    }

    public int signed(int one, int other) {
        return areTwo(one, other) ? now.signed[State.pairOf(one, other)] : NONE;
    }

    // ---- this drill

    public int out(int clerk) {
        if (!isIn(clerk, house.clerks)) {
            return -2;
        }
        runThisDrill();
        return drill.outs[clerk];
    }

    public int back(int clerk) {
        if (!isIn(clerk, house.clerks)) {
            return NONE;
        }
        runThisDrill();
        return drill.backs[clerk];
    }

    public int where(int clerk, int minute) {
        if (!isIn(clerk, house.clerks) || !isIn(minute, MINUTES)) {
            return NONE;
        }
        runThisDrill();
        return drill.places[minute][clerk];
    }

    public int meets(int one, int other) {
        if (!areTwo(one, other)) {
            return NONE;
        }
        runThisDrill();
        return drill.met[one][other];
    }

    public int empty() {
        runThisDrill();
        return drill.emptied;
    }

    public int signs() {
        runThisDrill();
        return drill.countSigning(house);
    }

    public int posts(int section) {
        if (section != NONE && !isIn(section, house.sections)) {
            return NONE;
        }
        runThisDrill();
        posting.find(house, now, drill);
        return section == NONE ? posting.most : posting.best[section];
    }

    public int wider() {
        runThisDrill();
        int soonest = drill.emptied;
        int found = NONE;
        for (int stair = 0; stair < house.stairs; stair++) {
            if (now.shut[stair] == 0) {
                drill.run(house, now, NONE, stair);
                if (drill.emptied < soonest) {
                    soonest = drill.emptied;
                    found = stair;
                }
            }
        }
        return found;
    }

    public int wardens() {
        int best = (1 << house.rooms) - 1;
        for (int rooms = best; rooms >= 0; rooms--) {
            // Going down, a later row as small as the best one has the lesser bits.
            if (Integer.bitCount(rooms) <= Integer.bitCount(best) && touchesAll(rooms)) {
                best = rooms;
            }
        }
        return best;
    }

    public long dear(int one, int other) {
        if (!areTwo(one, other)) {
            return NOTHING;
        }
        runThisDrill();
        return drill.dearness(house, now, one, other);
    }

    public long couples() {
        runThisDrill();
        coupling.find(house, now, drill);
        return coupling.most;
    }

    public int with(int clerk) {
        if (!isIn(clerk, house.clerks)) {
            return NONE;
        }
        runThisDrill();
        coupling.find(house, now, drill);
        return coupling.best[clerk];
    }

    // ---- ahead

    public int later(int n) {
        if (n < 0 || !mayCome(n)) {
            return NONE;
        }
        now.copyTo(kept);
        holdDrills(n);
        int signedThen = now.countSigned();
        now.copyFrom(kept);
        return signedThen;
    }

    // ---- who came when

    public int see() {
        boolean taken = suspects.takeSeen(text, house.clerks);
        text.length = 0;
        return taken ? suspects.rows : refuse(1);
    }

    public int shuts(int what) {
        if (what != 0 && what != 1) {
            return NONE;
        }
        suspects.gather(house, now, drill);
        return what == 0 ? suspects.bits() : suspects.fits[Suspects.NO_STAIR];
    }

    public int whom(int what) {
        if (what != 0 && what != 1) {
            return NONE;
        }
        suspects.gather(house, now, drill);
        suspects.choose(house.clerks);
        return what == 0 ? suspects.asked : suspects.left;
    }

    // ---- acts

    public boolean post(int section, int post) {
        if (!isIn(section, house.sections) || !isIn(post, HIGHEST_POST + 1) || now.posts[section] == post) {
            return deny(2);
        }
        history.add(now);
        now.posts[section] = post;
        return true;
    }

    public boolean shut(int stair, int on) {
        if (!isIn(stair, house.stairs) || !isIn(on, 2) || now.shut[stair] == on) {
            return deny(2);
        }
        history.add(now);
        now.shut[stair] = on;
        return true;
    }

    public int drills(int n) {
        if (n < 1 || !mayCome(n)) {
            return refuse(3);
        }
        history.add(now);
        return holdDrills(n);
    }

    public int chance(int n) {
        if (n < 1 || !mayCome(n)) {
            return refuse(3);
        }
        history.add(now);
        int smokes = 0;
        for (int k = 0; k < n && k < MOST_AT_ONCE; k++) {
            int smoky = NONE;
            if (house.stairs > 0 && draw(100) < house.smoke) {
                smoky = draw(house.stairs);
                smokes++;
            }
            drill.run(house, now, smoky, NONE);
            now.addDrill(house, drill);
        }
        return smokes;
    }

    public boolean undo() {
        if (history.count == 0) {
            return deny(4);
        }
        history.takeBack(now);
        return true;
    }

    public boolean seed(int seed) {
        if (seed < 0) {
            return deny(5);
        }
        seedNow = seed;
        return true;
    }

    // ---- questions

    public long ask() {
        int kind = readQuestion();
        text.length = 0;
        if (kind == NONE) {
            return NOTHING;
        }
        runThisDrill();
        return kind <= OFTEN ? answerTest(kind) : answerSum(kind);
    }

    // ---- images, refusals

    public int image() {
        octetCount = now.writeImage(house, octets);
        return octetCount;
    }

    public int octet(int k) {
        return isIn(k, octetCount) ? octets[k] : NONE;
    }

    public boolean on() {
        boolean right = State.isImage(house, text);
        if (right) {
            now.readImage(house, text.bytes);
            history.count = 0;
        }
        text.length = 0;
        return right || deny(5);
    }

    public int status(int what) {
        return isIn(what, refused.length) ? refused[what] : NONE;
    }

    // ---- what several calls share

    private int refuse(int kind) {
        refused[kind]++;
        return NONE;
    }

    private boolean deny(int kind) {
        refused[kind]++;
        return false;
    }

    private static boolean isIn(int n, int count) {
        return n >= 0 && n < count;
    }

    private boolean areTwo(int one, int other) {
        return isIn(one, house.clerks) && isIn(other, house.clerks) && one != other;
    }

    private static int letterOf(int name, int k) {
        return name >> (Text.LETTER_BITS * k) & 31;
    }

    private void runThisDrill() {
        drill.run(house, now, NONE, NONE);
    }

    private boolean touchesAll(int rooms) {
        for (int stair = 0; stair < house.stairs; stair++) {
            int ends = 1 << house.stairOne[stair] | 1 << house.stairOther[stair];
            if (now.shut[stair] == 0 && (rooms & ends) == 0) {
                return false;
            }
        }
        return true;
    }

    private boolean mayCome(int n) {
        return n <= MOST_AT_ONCE && now.drills + n <= MOST_DRILLS;
    }

    private int holdDrills(int n) {
        int signings = 0;
        for (int k = 0; k < n && k < MOST_AT_ONCE; k++) {
            drill.run(house, now, NONE, NONE);
            signings += now.addDrill(house, drill);
        }
        return signings;
    }

    private int draw(int m) {
        long x = (1103515245L * seedNow + 12345L) & 0x7fffffffL;
        seedNow = (int) x;
        return m > 0 ? (int) (x / 64 % m) : 0;
    }

    private int readQuestion() {
        text.open();
        question.size = 0;
        formula.begin(question, QUESTION_LEAVES, true);
        int kind = text.placeIn(QUESTIONS);
        if (kind == NONE) {
            text.fail(1, text.start);
            return NONE;
        }
        text.step();
        boolean read = kind <= OFTEN ? formula.readTest(0) : formula.readSum(0);
        if (read && text.kind != Text.OVER) {
            read = text.fail(1, text.start);
        }
        return read ? kind : NONE;
    }

    private int valueFor(int clerk) {
        leaves[0] = house.clerkPace[clerk];
        leaves[1] = house.clerkBag[clerk];
        leaves[2] = now.drills;
        leaves[3] = clerk;
        leaves[4] = now.posts[house.clerkSection[clerk]];
        leaves[5] = drill.outs[clerk];
        leaves[6] = now.signedOf(clerk, house.clerks);
        return question.valueFor(leaves, drill.met[clerk]);
    }

    private long answerTest(int kind) {
        int first = NONE;
        int last = NONE;
        int often = 0;
        for (int clerk = 0; clerk < house.clerks; clerk++) {
            if (valueFor(clerk) != 0) {
                first = first == NONE ? clerk : first;
                last = clerk;
                often++;
            }
        }
        if (kind == OFTEN) {
            return often;
        }
        return kind == FIRST ? first : last;
    }

    private long answerSum(int kind) {
        long total = 0;
        long most = 0;
        long least = 0;
        for (int clerk = 0; clerk < house.clerks; clerk++) {
            long value = valueFor(clerk);
            total += value;
            most = clerk == 0 ? value : Math.max(most, value);
            least = clerk == 0 ? value : Math.min(least, value);
        }
        if (kind == TOTAL) {
            return total;
        }
        return kind == MOST ? most : least;
    }

    /** The tape, and the words, numbers and signs that are read from it one by one. */
    private static final class Text {
        static final int NAME_LETTERS = 6;
        static final int LETTER_BITS = 5;
        static final int DIGITS = 4;
        static final int OVER = 0;
        static final int WORD = 1;
        static final int NUMBER = 2;
        static final int SIGN = 3;
        /** A word or number without the blank that it needs: nothing takes it. */
        static final int GLUED = 4;
        static final String OWN_WORDS = "room stair to wide part post clerk in of pace bag turns dear hears signs smoke drill minute crowd other long number out signed meets or and not all min max";

        final int[] bytes = new int[LONGEST_TEXT];
        int length;
        int kind;
        int start;
        int after;
        int nameAt;
        int number;
        int name;
        int fault;
        int place = NONE;

        void add(int fourBytes) {
            for (int shift = 24; shift >= 0 && length < bytes.length; shift -= 8) {
                bytes[length] = fourBytes >> shift & 255;
                length++;
            }
        }

        void open() {
            kind = SIGN;
            after = 0;
            fault = 0;
            place = NONE;
            step();
        }

        boolean fail(int whichFault, int at) {
            fault = whichFault;
            place = at;
            return false;
        }

        void step() {
            boolean behindWord = kind == WORD || kind == NUMBER;
            int at = after;
            while (at < length && (bytes[at] == 10 || bytes[at] == 32)) {
                at++;
            }
            boolean touching = behindWord && at == after;
            start = at;
            kind = kindAt(at);
            boolean wordLike = kind == WORD || kind == NUMBER;
            while (wordLike && at < length && kindAt(at) == kind) {
                at++;
            }
            after = kind == SIGN ? at + 1 : at;
            if (wordLike && touching) {
                kind = GLUED;
            }
        }

        private int kindAt(int at) {
            if (at >= length) {
                return OVER;
            }
            int b = bytes[at];
            if (b >= 'a' && b <= 'z') {
                return WORD;
            }
            return b >= '0' && b <= '9' ? NUMBER : SIGN;
        }

        /** Which of the words of a list, told with single blanks, stands here; NONE if none does. */
        int placeIn(String words) {
            int index = 0;
            int from = 0;
            boolean alike = kind == WORD;
            for (int k = 0; kind == WORD && k <= words.length(); k++) {
                boolean behind = k == words.length() || words.charAt(k) == ' ';
                if (behind && alike && k - from == after - start) {
                    return index;
                }
                if (behind) {
                    index++;
                    from = k + 1;
                    alike = true;
                } else {
                    int at = start + k - from;
                    alike = alike && at < after && bytes[at] == words.charAt(k);
                }
            }
            return NONE;
        }

        boolean isWord(String word) {
            return placeIn(word) == 0;
        }

        boolean isSign(char sign) {
            return kind == SIGN && bytes[start] == sign;
        }

        boolean takeWord(String word) {
            if (placeIn(word) != 0) {
                return fail(1, start);
            }
            step();
            return true;
        }

        boolean takeSign(char sign) {
            if (!isSign(sign)) {
                return fail(1, start);
            }
            step();
            return true;
        }

        boolean takeNumber(int least, int most) {
            if (kind != NUMBER) {
                return fail(1, start);
            }
            if (after - start > DIGITS) {
                return fail(1, start + DIGITS);
            }
            number = 0;
            for (int k = start; k < after; k++) {
                number = 10 * number + bytes[k] - '0';
            }
            if (number < least || number > most) {
                return fail(2, start);
            }
            step();
            return true;
        }

        boolean takeName() {
            if (kind != WORD) {
                return fail(1, start);
            }
            if (after - start > NAME_LETTERS) {
                return fail(1, start + NAME_LETTERS);
            }
            if (placeIn(OWN_WORDS) != NONE) {
                return fail(1, start);
            }
            name = 0;
            for (int k = start; k < after; k++) {
                name |= bytes[k] - 'a' + 1 << LETTER_BITS * (k - start);
            }
            nameAt = start;
            step();
            return true;
        }
    }

    /** A TEST or a SUM, its operands ahead of what joins them. */
    private static final class Program {
        static final int PLUS = -1;
        static final int MINUS = -2;
        static final int TIMES = -3;
        static final int OVER = -4;
        static final int LESS = -5;
        static final int MORE = -6;
        static final int EQUAL = -7;
        static final int AND = -8;
        static final int OR = -9;
        static final int LESSER = -10;
        static final int GREATER = -11;
        static final int NOT = -12;
        static final int MEETS = -13;
        /** This, and below it one for each word of the language that stands for a number. */
        static final int LEAF = -100;
        static final int TRUE = 1;
        /** Six open at once, with at most three operands waiting in each, stay far below. */
        static final int WAITING = 64;
        static final long BOUND = 1000000L;

        final int[] code = new int[LONGEST_TEXT];
        int size;
        final int[] stack = new int[WAITING];

        void add(int step) {
            if (size < code.length) {
                code[size] = step;
                size++;
            }
        }

        /** Without code it is 0, which holds for no TEST. */
        int valueFor(int[] leafValues, int[] met) {
            int top = 0;
            for (int k = 0; k < size; k++) {
                int step = code[k];
                if (step >= 0 || step <= LEAF) {
                    if (top >= WAITING) {
                        return 0;
                    }
                    stack[top] = step >= 0 ? step : valueAt(leafValues, LEAF - step);
                    top++;
                } else if (step == NOT || step == MEETS) {
                    if (top < 1) {
                        return 0;
                    }
                    int value = stack[top - 1];
                    stack[top - 1] = step == NOT ? 1 - value : valueAt(met, value);
                } else {
                    if (top < 2) {
                        return 0;
                    }
                    top--;
                    stack[top - 1] = join(step, stack[top - 1], stack[top]);
                }
            }
            return top > 0 ? stack[0] : 0;
        }

        private static int valueAt(int[] values, int index) {
            return index >= 0 && index < values.length ? values[index] : 0;
        }

        private static int join(int step, int a, int b) {
            switch (step) {
                case PLUS: return bounded((long) a + b);
                case MINUS: return bounded((long) a - b);
                case TIMES: return bounded((long) a * b);
                case OVER: return b == 0 ? 0 : Math.floorDiv(a, b);
                case LESS: return a < b ? 1 : 0;
                case MORE: return a > b ? 1 : 0;
                case EQUAL: return a == b ? 1 : 0;
                case AND: return a & b;
                case OR: return a | b;
                case LESSER: return Math.min(a, b);
                case GREATER: return Math.max(a, b);
                default: return 0;
            }
        }

        private static int bounded(long value) {
            if (value > BOUND) {
                return (int) BOUND;
            }
            return value < -BOUND ? (int) -BOUND : (int) value;
        }
    }

    /** Reads a TEST or a SUM into a program; each method carries how many of ( [ not meets are open. */
    private static final class Formula {
        static final int MOST_OPEN = 6;

        final Text text;
        Program program;
        String leafWords = "";
        boolean withMeets;

        Formula(Text text, Program program) {
            this.text = text;
            this.program = program;
        }

        void begin(Program into, String words, boolean meetsToo) {
            program = into;
            leafWords = words;
            withMeets = meetsToo;
        }

        boolean readTest(int open) {
            if (!readBoth(open)) {
                return false;
            }
            for (int k = 0; k < LONGEST_TEXT && text.isWord("or"); k++) {
                text.step();
                if (!readBoth(open)) {
                    return false;
                }
                program.add(Program.OR);
            }
            return true;
        }

        private boolean readBoth(int open) {
            if (!readFact(open)) {
                return false;
            }
            for (int k = 0; k < LONGEST_TEXT && text.isWord("and"); k++) {
                text.step();
                if (!readFact(open)) {
                    return false;
                }
                program.add(Program.AND);
            }
            return true;
        }

        private boolean readFact(int open) {
            if (text.isWord("not")) {
                if (!opens(open) || !readFact(open + 1)) {
                    return false;
                }
                program.add(Program.NOT);
                return true;
            }
            if (text.isSign('[')) {
                return opens(open) && readTest(open + 1) && text.takeSign(']');
            }
            if (text.isWord("all")) {
                text.step();
                program.add(Program.TRUE);
                return true;
            }
            if (!readSum(open)) {
                return false;
            }
            int sign = comparisonHere();
            if (sign == 0) {
                return text.fail(1, text.start);
            }
            text.step();
            if (!readSum(open)) {
                return false;
            }
            program.add(sign);
            return true;
        }

        private int comparisonHere() {
            if (text.isSign('<')) {
                return Program.LESS;
            }
            if (text.isSign('>')) {
                return Program.MORE;
            }
            return text.isSign('=') ? Program.EQUAL : 0;
        }

        boolean readSum(int open) {
            if (!readProduct(open)) {
                return false;
            }
            for (int k = 0; k < LONGEST_TEXT && (text.isSign('+') || text.isSign('-')); k++) {
                int sign = text.isSign('+') ? Program.PLUS : Program.MINUS;
                text.step();
                if (!readProduct(open)) {
                    return false;
                }
                program.add(sign);
            }
            return true;
        }

        private boolean readProduct(int open) {
            if (!readPart(open)) {
                return false;
            }
            for (int k = 0; k < LONGEST_TEXT && (text.isSign('*') || text.isSign('/')); k++) {
                int sign = text.isSign('*') ? Program.TIMES : Program.OVER;
                text.step();
                if (!readPart(open)) {
                    return false;
                }
                program.add(sign);
            }
            return true;
        }

        private boolean readPart(int open) {
            if (text.kind == Text.NUMBER) {
                if (!text.takeNumber(0, 9999)) {
                    return false;
                }
                program.add(text.number);
                return true;
            }
            if (text.isSign('(')) {
                return opens(open) && readSum(open + 1) && text.takeSign(')');
            }
            if (text.isWord("min") || text.isWord("max")) {
                return readLesserOrGreater(open);
            }
            if (withMeets && text.isWord("meets")) {
                if (!opens(open) || !readPart(open + 1)) {
                    return false;
                }
                program.add(Program.MEETS);
                return true;
            }
            int leaf = text.placeIn(leafWords);
            if (leaf == NONE) {
                return text.fail(1, text.start);
            }
            text.step();
            program.add(Program.LEAF - leaf);
            return true;
        }

        private boolean readLesserOrGreater(int open) {
            int which = text.isWord("min") ? Program.LESSER : Program.GREATER;
            text.step();
            if (!text.isSign('(')) {
                return text.fail(1, text.start);
            }
            if (!opens(open) || !readSum(open + 1) || !text.takeSign(',') || !readSum(open + 1)) {
                return false;
            }
            program.add(which);
            return text.takeSign(')');
        }

        private boolean opens(int open) {
            if (open >= MOST_OPEN) {
                return text.fail(4, text.start);
            }
            text.step();
            return true;
        }
    }

    /** What the text of a house tells. */
    private static final class House {
        static final String TURNS_LEAVES = "pace bag drill minute crowd";
        static final String DEAR_LEAVES = "pace bag drill other long";
        static final int LONG = 4;

        int rooms;
        int stairs;
        int sections;
        int clerks;
        final int[] roomNames = new int[ROOMS];
        final int[] sectionNames = new int[SECTIONS];
        final int[] clerkNames = new int[CLERKS];
        final int[] stairOne = new int[STAIRS];
        final int[] stairOther = new int[STAIRS];
        final int[] stairWide = new int[STAIRS];
        final int[] firstPosts = new int[SECTIONS];
        final int[] clerkRoom = new int[CLERKS];
        final int[] clerkSection = new int[CLERKS];
        final int[] clerkPace = new int[CLERKS];
        final int[] clerkBag = new int[CLERKS];
        final Program turns = new Program();
        final Program dear = new Program();
        int hears;
        int signs;
        int smoke;

        House() {
            clear();
        }

        void clear() {
            rooms = 0;
            stairs = 0;
            sections = 0;
            clerks = 0;
            turns.size = 0;
            dear.size = 0;
            dear.add(Program.LEAF - LONG);
            hears = 3;
            signs = 2;
            smoke = 0;
        }

        static int find(int[] names, int count, int name) {
            for (int k = 0; k < count && k < names.length; k++) {
                if (names[k] == name) {
                    return k;
                }
            }
            return NONE;
        }

        boolean isNamed(int name) {
            return find(roomNames, rooms, name) != NONE || find(sectionNames, sections, name) != NONE
                || find(clerkNames, clerks, name) != NONE;
        }

        boolean hasStair(int one, int other) {
            for (int k = 0; k < stairs; k++) {
                if (leadsTo(k, one) == other) {
                    return true;
                }
            }
            return false;
        }

        /** The room at the other end of a stair; NONE if it does not touch this one. */
        int leadsTo(int stair, int room) {
            if (stairOne[stair] == room) {
                return stairOther[stair];
            }
            return stairOther[stair] == room ? stairOne[stair] : NONE;
        }

        int clerksOf(int section) {
            int bits = 0;
            for (int k = 0; k < clerks; k++) {
                if (clerkSection[k] == section) {
                    bits |= 1 << k;
                }
            }
            return bits;
        }
    }

    /** Reads the statements of a house. */
    private static final class HouseReader {
        static final int MOST_STATEMENTS = 80;
        static final String STATEMENTS = "room stair part clerk turns dear hears signs smoke";
        static final int ROOM = 0;
        static final int STAIR = 1;
        static final int PART = 2;
        static final int CLERK = 3;
        static final int TURNS = 4;
        static final int DEAR = 5;
        static final int HEARS = 6;
        static final int SIGNS = 7;
        static final int KINDS = 9;
        static final int[] MOST_OF = {ROOMS, STAIRS, SECTIONS, CLERKS, 1, 1, 80, 80, 80};

        final Text text;
        final Formula formula;
        final int[] told = new int[KINDS];

        HouseReader(Text text, Formula formula) {
            this.text = text;
            this.formula = formula;
        }

        /** How many statements there are; NONE with a fault. */
        int readHouse(House into) {
            into.clear();
            for (int k = 0; k < told.length; k++) {
                told[k] = 0;
            }
            text.open();
            int statements = 0;
            while (statements < MOST_STATEMENTS && text.kind != Text.OVER) {
                if (!readStatement(into) || !text.takeSign(';')) {
                    return NONE;
                }
                statements++;
            }
            if (text.kind != Text.OVER) {
                text.fail(5, text.start);
                return NONE;
            }
            return statements;
        }

        private boolean readStatement(House into) {
            int kind = text.placeIn(STATEMENTS);
            if (kind == NONE) {
                return text.fail(1, text.start);
            }
            if (told[kind] >= MOST_OF[kind]) {
                return text.fail(5, text.start);
            }
            told[kind]++;
            text.step();
            switch (kind) {
                case ROOM:
                    return readRoom(into);
                case STAIR:
                    return readStair(into);
                case PART:
                    return readSection(into);
                case CLERK:
                    return readClerk(into);
                case TURNS:
                    formula.begin(into.turns, House.TURNS_LEAVES, false);
                    return formula.readTest(0);
                case DEAR:
                    into.dear.size = 0;
                    formula.begin(into.dear, House.DEAR_LEAVES, false);
                    return formula.readSum(0);
                case HEARS:
                    return readHears(into);
                case SIGNS:
                    return readSigns(into);
                default:
                    return readSmoke(into);
            }
        }

        private boolean takeNewName(House into) {
            if (!text.takeName()) {
                return false;
            }
            return !into.isNamed(text.name) || text.fail(3, text.nameAt);
        }

        /** The number of a room or section that is told already; NONE with a fault. */
        private int takeOldName(int[] names, int count) {
            if (!text.takeName()) {
                return NONE;
            }
            int found = House.find(names, count, text.name);
            if (found == NONE) {
                text.fail(3, text.nameAt);
            }
            return found;
        }

        private boolean takeSetting(String word, int least, int most) {
            return text.takeWord(word) && text.takeNumber(least, most);
        }

        private boolean readRoom(House into) {
            if (!takeNewName(into) || into.rooms >= ROOMS) {
                return false;
            }
            into.roomNames[into.rooms] = text.name;
            into.rooms++;
            return true;
        }

        private boolean readStair(House into) {
            int one = takeOldName(into.roomNames, into.rooms);
            if (one == NONE || !text.takeWord("to")) {
                return false;
            }
            int other = takeOldName(into.roomNames, into.rooms);
            if (other == NONE) {
                return false;
            }
            if (one == other || into.hasStair(one, other)) {
                return text.fail(3, text.nameAt);
            }
            if (!takeSetting("wide", 1, 4) || into.stairs >= STAIRS) {
                return false;
            }
            into.stairOne[into.stairs] = one;
            into.stairOther[into.stairs] = other;
            into.stairWide[into.stairs] = text.number;
            into.stairs++;
            return true;
        }

        private boolean readSection(House into) {
            if (!takeNewName(into)) {
                return false;
            }
            int name = text.name;
            if (!takeSetting("post", 0, HIGHEST_POST) || into.sections >= SECTIONS) {
                return false;
            }
            into.sectionNames[into.sections] = name;
            into.firstPosts[into.sections] = text.number;
            into.sections++;
            return true;
        }

        private boolean readClerk(House into) {
            int clerk = into.clerks;
            if (!takeNewName(into) || clerk >= CLERKS) {
                return false;
            }
            into.clerkNames[clerk] = text.name;
            int room = text.takeWord("in") ? takeOldName(into.roomNames, into.rooms) : NONE;
            if (room == NONE) {
                return false;
            }
            int section = text.takeWord("of") ? takeOldName(into.sectionNames, into.sections) : NONE;
            if (section == NONE || !takeSetting("pace", 1, 3)) {
                return false;
            }
            into.clerkPace[clerk] = text.number;
            if (!takeSetting("bag", 0, 9)) {
                return false;
            }
            into.clerkBag[clerk] = text.number;
            into.clerkRoom[clerk] = room;
            into.clerkSection[clerk] = section;
            into.clerks++;
            return true;
        }

        private boolean readHears(House into) {
            if (!text.takeNumber(0, 20)) {
                return false;
            }
            into.hears = text.number;
            return true;
        }

        private boolean readSigns(House into) {
            if (!text.takeNumber(1, 9)) {
                return false;
            }
            into.signs = text.number;
            return true;
        }

        private boolean readSmoke(House into) {
            if (!text.takeNumber(0, 100)) {
                return false;
            }
            into.smoke = text.number;
            return true;
        }
    }

    /** What acts change: drills, posts, stairs shut, how often pairs signed. */
    private static final class State {
        static final int CELLS = 1 + SECTIONS + STAIRS + PAIRS;
        static final int MOST_OCTETS = 2 + SECTIONS + STAIRS + 2 * PAIRS + 1;

        int drills;
        final int[] posts = new int[SECTIONS];
        final int[] shut = new int[STAIRS];
        final int[] signed = new int[PAIRS];

        void begin(House house) {
            drills = 0;
            for (int k = 0; k < SECTIONS; k++) {
                posts[k] = k < house.sections ? house.firstPosts[k] : 0;
            }
            for (int k = 0; k < STAIRS; k++) {
                shut[k] = 0;
            }
            for (int k = 0; k < PAIRS; k++) {
                signed[k] = 0;
            }
        }

        /** By the greater number first, so that a pair's place is the same for any number of clerks. */
        static int pairOf(int one, int other) {
            int less = Math.min(one, other);
            int more = Math.max(one, other);
            return more * (more - 1) / 2 + less;
        }

        int countShut() {
            int count = 0;
            for (int k = 0; k < STAIRS; k++) {
                count += shut[k];
            }
            return count;
        }

        int countSigned() {
            int count = 0;
            for (int k = 0; k < PAIRS; k++) {
                count += signed[k];
            }
            return count;
        }

        int signedOf(int clerk, int clerks) {
            int count = 0;
            for (int other = 0; other < clerks; other++) {
                if (other != clerk) {
                    count += signed[pairOf(clerk, other)];
                }
            }
            return count;
        }

        /** How many pairs signed in the drill that is over. */
        int addDrill(House house, Drill drill) {
            int signings = 0;
            for (int one = 0; one < house.clerks; one++) {
                for (int other = one + 1; other < house.clerks; other++) {
                    if (drill.met[one][other] >= house.signs) {
                        int pair = pairOf(one, other);
                        signed[pair] = Math.min(MOST_SIGNED, signed[pair] + 1);
                        signings++;
                    }
                }
            }
            drills = Math.min(MOST_DRILLS, drills + 1);
            return signings;
        }

        void copyTo(int[] row) {
            row[0] = drills;
            System.arraycopy(posts, 0, row, 1, SECTIONS);
            System.arraycopy(shut, 0, row, 1 + SECTIONS, STAIRS);
            System.arraycopy(signed, 0, row, 1 + SECTIONS + STAIRS, PAIRS);
        }

        void copyFrom(int[] row) {
            drills = row[0];
            System.arraycopy(row, 1, posts, 0, SECTIONS);
            System.arraycopy(row, 1 + SECTIONS, shut, 0, STAIRS);
            System.arraycopy(row, 1 + SECTIONS + STAIRS, signed, 0, PAIRS);
        }

        static int imageLength(House house) {
            return 2 + house.sections + house.stairs + house.clerks * (house.clerks - 1) + 1;
        }

        static int checkOf(int[] bytes, int count) {
            int c = 107;
            for (int k = 0; k < count; k++) {
                c = (3 * c + bytes[k]) % 251;
            }
            return c;
        }

        int writeImage(House house, int[] into) {
            into[0] = drills >> 8;
            into[1] = drills & 255;
            int at = 2;
            for (int k = 0; k < house.sections; k++, at++) {
                into[at] = posts[k];
            }
            for (int k = 0; k < house.stairs; k++, at++) {
                into[at] = shut[k];
            }
            for (int one = 0; one < house.clerks; one++) {
                for (int other = one + 1; other < house.clerks; other++, at += 2) {
                    into[at] = signed[pairOf(one, other)] >> 8;
                    into[at + 1] = signed[pairOf(one, other)] & 255;
                }
            }
            into[at] = checkOf(into, at);
            return at + 1;
        }

        static boolean isImage(House house, Text text) {
            int last = imageLength(house) - 1;
            int[] bytes = text.bytes;
            if (text.length != last + 1 || bytes[last] != checkOf(bytes, last)) {
                return false;
            }
            boolean right = 256 * bytes[0] + bytes[1] <= MOST_DRILLS;
            int stairsAt = 2 + house.sections;
            int pairsAt = stairsAt + house.stairs;
            for (int at = 2; at < stairsAt; at++) {
                right = right && bytes[at] <= HIGHEST_POST;
            }
            for (int at = stairsAt; at < pairsAt; at++) {
                right = right && bytes[at] <= 1;
            }
            for (int at = pairsAt; at + 1 < last; at += 2) {
                right = right && 256 * bytes[at] + bytes[at + 1] <= MOST_SIGNED;
            }
            return right;
        }

        /** Only behind isImage. */
        void readImage(House house, int[] bytes) {
            drills = 256 * bytes[0] + bytes[1];
            int at = 2;
            for (int k = 0; k < house.sections; k++, at++) {
                posts[k] = bytes[at];
            }
            for (int k = 0; k < house.stairs; k++, at++) {
                shut[k] = bytes[at];
            }
            for (int one = 0; one < house.clerks; one++) {
                for (int other = one + 1; other < house.clerks; other++, at += 2) {
                    signed[pairOf(one, other)] = 256 * bytes[at] + bytes[at + 1];
                }
            }
        }
    }

    /** How all was ahead of the latest acts. */
    private static final class History {
        static final int MOST_ACTS = 20;

        final int[][] rows = new int[MOST_ACTS][State.CELLS];
        int next;
        int count;

        void add(State state) {
            state.copyTo(rows[next]);
            next = (next + 1) % MOST_ACTS;
            count = Math.min(MOST_ACTS, count + 1);
        }

        void takeBack(State state) {
            next = (next + MOST_ACTS - 1) % MOST_ACTS;
            state.copyFrom(rows[next]);
            count--;
        }
    }

    /** One drill, minute by minute. */
    private static final class Drill {
        final int[] fars = new int[ROOMS];
        final int[] outs = new int[CLERKS];
        final int[] backs = new int[CLERKS];
        final int[][] places = new int[MINUTES][CLERKS];
        /** Minutes in which both stand on the lawn, wherever their posts are. */
        final int[][] together = new int[CLERKS][CLERKS];
        final int[][] met = new int[CLERKS][CLERKS];
        int emptied;
        private final int[] at = new int[CLERKS];
        /** 0 for a stair that is shut. */
        private final int[] widths = new int[STAIRS];
        private final int[] free = new int[STAIRS];
        private final int[] leafValues = new int[5];

        /** A stair may be shut too (smoky), or wider by one (widened); NONE without. */
        void run(House house, State state, int smoky, int widened) {
            prepare(house, state, smoky, widened);
            goToRooms(house);
            emptied = areAllOut(house) ? NONE : NEVER;
            for (int minute = 0; minute < MINUTES; minute++) {
                runMinute(house, state, minute);
                if (emptied == NEVER && areAllOut(house)) {
                    emptied = minute;
                }
            }
            countMeetings(house, state);
        }

        void prepare(House house, State state, int smoky, int widened) {
            for (int k = 0; k < house.stairs; k++) {
                boolean closed = state.shut[k] == 1 || k == smoky;
                int width = house.stairWide[k] + (k == widened ? 1 : 0);
                widths[k] = closed ? 0 : width;
            }
            for (int room = 0; room < ROOMS; room++) {
                fars[room] = room == LAWN ? 0 : NONE;
            }
            for (int far = 0; far < ROOMS; far++) {
                for (int k = 0; k < house.stairs; k++) {
                    if (widths[k] > 0) {
                        reach(house.stairOne[k], house.stairOther[k], far);
                        reach(house.stairOther[k], house.stairOne[k], far);
                    }
                }
            }
        }

        private void reach(int from, int to, int far) {
            if (fars[from] == far && fars[to] == NONE) {
                fars[to] = far + 1;
            }
        }

        private void goToRooms(House house) {
            for (int clerk = 0; clerk < house.clerks; clerk++) {
                at[clerk] = house.clerkRoom[clerk];
                outs[clerk] = at[clerk] == LAWN ? NONE : NEVER;
                backs[clerk] = NONE;
                for (int other = 0; other < CLERKS; other++) {
                    together[clerk][other] = 0;
                }
            }
        }

        private boolean isOut(int clerk) {
            return at[clerk] == LAWN && backs[clerk] == NONE;
        }

        private boolean areAllOut(House house) {
            for (int clerk = 0; clerk < house.clerks; clerk++) {
                if (!isOut(clerk)) {
                    return false;
                }
            }
            return true;
        }

        private void runMinute(House house, State state, int minute) {
            System.arraycopy(widths, 0, free, 0, STAIRS);
            for (int clerk = 0; clerk < house.clerks; clerk++) {
                if (isOut(clerk)) {
                    if (turns(house, state.drills, clerk, minute)) {
                        backs[clerk] = minute;
                        at[clerk] = house.clerkRoom[clerk];
                    }
                } else if (backs[clerk] == NONE) {
                    walk(house, clerk, minute);
                }
            }
            for (int clerk = 0; clerk < house.clerks; clerk++) {
                places[minute][clerk] = at[clerk];
                for (int other = 0; other < house.clerks; other++) {
                    if (other != clerk && isOut(clerk) && isOut(other)) {
                        together[clerk][other]++;
                    }
                }
            }
        }

        private boolean turns(House house, int drills, int clerk, int minute) {
            int crowd = 0;
            for (int other = 0; other < house.clerks; other++) {
                if (other != clerk && isOut(other)) {
                    crowd++;
                }
            }
            leafValues[0] = house.clerkPace[clerk];
            leafValues[1] = house.clerkBag[clerk];
            leafValues[2] = drills;
            leafValues[3] = minute;
            leafValues[4] = crowd;
            return house.turns.valueFor(leafValues, met[clerk]) != 0;
        }

        private void walk(House house, int clerk, int minute) {
            for (int k = 0; k < house.clerkPace[clerk] && at[clerk] != LAWN; k++) {
                int stair = stairFrom(house, at[clerk]);
                if (stair == NONE) {
                    return;
                }
                free[stair]--;
                at[clerk] = house.leadsTo(stair, at[clerk]);
            }
            outs[clerk] = at[clerk] == LAWN ? minute : NEVER;
        }

        private int stairFrom(House house, int room) {
            int found = NONE;
            int nearest = ROOMS;
            for (int k = 0; k < house.stairs; k++) {
                int to = house.leadsTo(k, room);
                if (to != NONE && to < nearest && free[k] > 0 && fars[to] != NONE && fars[to] == fars[room] - 1) {
                    nearest = to;
                    found = k;
                }
            }
            return found;
        }

        /** Also for clerks that there are not: a question may ask for them, and an earlier house may have had them. */
        private void countMeetings(House house, State state) {
            for (int one = 0; one < CLERKS; one++) {
                for (int other = 0; other < CLERKS; other++) {
                    boolean hear = one < house.clerks && other < house.clerks
                        && apart(house, state, one, other) <= house.hears;
                    met[one][other] = hear ? together[one][other] : 0;
                }
            }
        }

        private static int apart(House house, State state, int one, int other) {
            return Math.abs(state.posts[house.clerkSection[one]] - state.posts[house.clerkSection[other]]);
        }

        int countSigning(House house) {
            int count = 0;
            for (int one = 0; one < house.clerks; one++) {
                for (int other = one + 1; other < house.clerks; other++) {
                    if (met[one][other] >= house.signs) {
                        count++;
                    }
                }
            }
            return count;
        }

        long dearness(House house, State state, int one, int other) {
            return (long) dearnessTo(house, state.drills, one, other) + dearnessTo(house, state.drills, other, one);
        }

        private int dearnessTo(House house, int drills, int one, int other) {
            leafValues[0] = house.clerkPace[one];
            leafValues[1] = house.clerkBag[one];
            leafValues[2] = drills;
            leafValues[3] = house.clerkBag[other];
            leafValues[4] = met[one][other];
            return house.dear.valueFor(leafValues, met[one]);
        }
    }

    /** The posts, given otherwise, by which most pairs sign. */
    private static final class Posting {
        final int[] best = new int[SECTIONS];
        int most;
        private final int[] row = new int[SECTIONS];

        /** Behind a run of the drill: who stands on the lawn when does not hang on the posts. */
        void find(House house, State state, Drill drill) {
            most = NONE;
            search(house, state, drill, 0, 0);
        }

        private void search(House house, State state, Drill drill, int section, int given) {
            if (section >= house.sections || section >= SECTIONS) {
                keepIfMore(house, count(house, state, drill));
                return;
            }
            for (int whose = 0; whose < house.sections; whose++) {
                if ((given >> whose & 1) == 0) {
                    row[section] = whose;
                    search(house, state, drill, section + 1, given | 1 << whose);
                }
            }
        }

        private void keepIfMore(House house, int signing) {
            if (signing > most) {
                most = signing;
                System.arraycopy(row, 0, best, 0, house.sections);
            }
        }

        private int count(House house, State state, Drill drill) {
            int signing = 0;
            for (int one = 0; one < house.clerks; one++) {
                int post = state.posts[row[house.clerkSection[one]]];
                for (int other = one + 1; other < house.clerks; other++) {
                    int apart = Math.abs(post - state.posts[row[house.clerkSection[other]]]);
                    if (apart <= house.hears && drill.together[one][other] >= house.signs) {
                        signing++;
                    }
                }
            }
            return signing;
        }
    }

    /** The couples that are dearest. */
    private static final class Coupling {
        final int[] best = new int[CLERKS];
        long most;
        private final int[] row = new int[CLERKS];
        private final long[][] worth = new long[CLERKS][CLERKS];

        /** Behind a run of the drill. */
        void find(House house, State state, Drill drill) {
            for (int one = 0; one < house.clerks; one++) {
                row[one] = NONE;
                for (int other = one + 1; other < house.clerks; other++) {
                    boolean meet = drill.met[one][other] > 0;
                    worth[one][other] = meet ? drill.dearness(house, state, one, other) : NOTHING;
                }
            }
            most = NONE;
            search(house.clerks, 0, 0);
        }

        /** Rows come in their order, so of like ones the first stays. */
        private void search(int clerks, int clerk, long sum) {
            if (clerk >= clerks || clerk >= CLERKS) {
                if (sum > most) {
                    most = sum;
                    System.arraycopy(row, 0, best, 0, clerks);
                }
                return;
            }
            search(clerks, clerk + 1, sum);
            for (int other = clerk + 1; row[clerk] == NONE && other < clerks; other++) {
                if (row[other] == NONE && worth[clerk][other] != NOTHING) {
                    row[clerk] = other;
                    row[other] = clerk;
                    search(clerks, clerk + 1, sum + worth[clerk][other]);
                    row[clerk] = NONE;
                    row[other] = NONE;
                }
            }
        }
    }

    /** Which stair was shut too, by who came when, and whom to ask. */
    private static final class Suspects {
        static final int MOST_ROWS = 16;
        static final int AHEAD_OF_ALL = 255;
        /** Behind the stairs: that none was shut too. */
        static final int NO_STAIR = STAIRS;

        int rows;
        final int[] seenClerks = new int[MOST_ROWS];
        final int[] seenOuts = new int[MOST_ROWS];
        final int[] fits = new int[STAIRS + 1];
        final int[][] outs = new int[STAIRS + 1][CLERKS];
        int asked;
        int left;

        boolean takeSeen(Text text, int clerks) {
            if (text.length < 2 || text.length > 2 * MOST_ROWS || text.length % 2 != 0) {
                return false;
            }
            for (int at = 0; at + 1 < text.length; at += 2) {
                if (text.bytes[at] >= clerks || !isMinute(text.bytes[at + 1])) {
                    return false;
                }
            }
            rows = text.length / 2;
            for (int k = 0; k < rows; k++) {
                int out = text.bytes[2 * k + 1];
                seenClerks[k] = text.bytes[2 * k];
                seenOuts[k] = out == AHEAD_OF_ALL ? NONE : out;
            }
            return true;
        }

        private static boolean isMinute(int b) {
            return b < MINUTES || b == NEVER || b == AHEAD_OF_ALL;
        }

        void gather(House house, State state, Drill drill) {
            for (int k = 0; k <= NO_STAIR; k++) {
                fits[k] = 0;
                boolean mayBe = k == NO_STAIR || k < house.stairs && state.shut[k] == 0;
                if (mayBe) {
                    drill.run(house, state, k == NO_STAIR ? NONE : k, NONE);
                    System.arraycopy(drill.outs, 0, outs[k], 0, CLERKS);
                    fits[k] = isAsSeen(outs[k]) ? 1 : 0;
                }
            }
        }

        private boolean isAsSeen(int[] outsThen) {
            for (int k = 0; k < rows; k++) {
                if (outsThen[seenClerks[k]] != seenOuts[k]) {
                    return false;
                }
            }
            return true;
        }

        int bits() {
            int found = 0;
            for (int k = 0; k < STAIRS; k++) {
                found |= fits[k] << k;
            }
            return found;
        }

        /** Behind gather. */
        void choose(int clerks) {
            asked = NONE;
            left = NONE;
            for (int clerk = 0; clerk < clerks; clerk++) {
                int most = mostLeft(clerk);
                if (most > 0 && (asked == NONE || most < left)) {
                    asked = clerk;
                    left = most;
                }
            }
        }

        private int mostLeft(int clerk) {
            int most = 0;
            for (int k = 0; k <= NO_STAIR; k++) {
                int alike = 0;
                for (int j = 0; j <= NO_STAIR; j++) {
                    if (fits[k] == 1 && fits[j] == 1 && outs[k][clerk] == outs[j][clerk]) {
                        alike++;
                    }
                }
                most = Math.max(most, alike);
            }
            return most;
        }
    }
}
