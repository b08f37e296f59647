import java.util.ArrayDeque;
import java.util.ArrayList;
import java.util.Arrays;
import java.util.Deque;
import java.util.HashMap;
import java.util.HashSet;
import java.util.LinkedHashMap;
import java.util.LinkedHashSet;
import java.util.List;
import java.util.Map;
import java.util.Random;
import java.util.Set;

/**
 * Texts spoilt by fixed seeds, their faults held against a second way to find them: fault 1 by a recogniser that is
 * given the grammar as a table (Earley's), the others by looking along the words that it lets pass.
 */
public final class FaultOracleTest {
    private static final Check CHECK = new Check("FaultOracleTest");
    private static final int SPOILT = 30000;
    private static final Set<String> OWN = Set.of("room", "stair", "to", "wide", "part", "post", "clerk", "in", "of", "pace", "bag",
        "turns", "dear", "hears", "signs", "smoke", "drill", "minute", "crowd", "other", "long", "number", "out", "signed", "meets",
        "or", "and", "not", "all", "min", "max");
    private static final String[] HOUSES = {
        "room lawn; room hall; room attic; stair hall to lawn wide 1; stair attic to hall wide 2; part maps post 2; part drain post 16;"
            + "clerk ann in attic of maps pace 1 bag 3; clerk bob in hall of drain pace 2 bag 0; turns bag>4 and minute>3 or not crowd=2;"
            + "dear long*2-bag+other; hears 3; signs 2; smoke 50;",
        "turns not[not[not(minute)>min(1,(2))]]and[[[all]or bag=1]]; dear((max(((1)),2*min(long,3))));room a;room b;stair b to a wide 4;",
        "room a;room b;room c;room d;room e;room f;room g;room h;stair a to b wide 1;stair a to c wide 2;stair a to d wide 3;"
            + "stair e to a wide 4;stair f to a wide 1;stair b to c wide 1;stair b to d wide 1;stair d to h wide 1;stair h to g wide 1;",
        "part p post 0;part q post 5;part r post 10;part s post 15;part t post 20;room x;clerk a in x of p pace 1 bag 1;"
            + "clerk b in x of q pace 2 bag 2;clerk c in x of r pace 3 bag 3;clerk d in x of s pace 1 bag 4;clerk e in x of t pace 1 bag 5;"
            + "clerk f in x of p pace 1 bag 6;clerk g in x of p pace 1 bag 7;clerk h in x of p pace 1 bag 8;turns drill/2=3;",
        "hears 1;".repeat(78) + "room a;room b;",
        "turns not not not not not not all or not not not not not(1)<2;dear min(min(min(min(min(min(1,2),3),4),5),6),7)",
    };
    private static final String[] QUESTIONS = {
        "first bag>4 and not out=99 or [signed<3]", "last all", "often not not not not not not all and[[[[[[post=2]]]]]]",
        "total meets meets(number+1)*2-min(pace,max(drill,meets 3))", "most meets meets meets meets meets(1)/((((((bag))))))",
        "least 0-9999*(signed+1)",
    };
    private static final String[] PIECES = {"room", "stair", "to", "wide", "part", "post", "clerk", "in", "of", "pace", "bag", "turns",
        "dear", "hears", "signs", "smoke", "drill", "minute", "crowd", "other", "long", "number", "out", "signed", "meets", "or", "and",
        "not", "all", "min", "max", "first", "total", "a", "b", "zz", "lawn", "abcdef", "abcdefg", "minutes", "0", "1", "4", "5", "9",
        "21", "101", "0001", "00001", "99999", "(", ")", "[", "]", "<", ">", "=", "+", "-", "*", "/", ",", ";", " ", "\n", "  ", "#",
        "A", "\t", "((((((", "[[[[[[", "not not not ", "meets meets ", "\u00ff"};

    public static void main(String[] args) {
        Grammar houses = Grammar.ofHouses();
        Grammar questions = Grammar.ofQuestions();
        int[] faults = new int[6];
        for (int seed = 0; seed < SPOILT; seed++) {
            Random random = new Random(seed);
            boolean house = random.nextInt(3) > 0;
            String[] texts = house ? HOUSES : QUESTIONS;
            String text = texts[random.nextInt(texts.length)];
            for (int k = random.nextInt(3); k >= 0; k--) {
                text = spoil(text, random);
            }
            if (text.length() <= 1600) {
                long due = house ? new Reader(text, houses, true).fault() : new Reader(text, questions, false).fault();
                int fault = (int) (due >> 32);
                int place = (int) due;
                faults[fault]++;
                FireDrill x = new FireDrill();
                Check.tape(x, text);
                long answer = house ? x.house() : x.ask();
                CHECK.is("fault(0) of " + text, x.fault(0), fault);
                CHECK.is("fault(1) of " + text, x.fault(1), place);
                CHECK.is("refused: " + text, house ? answer == -1 : answer == FireDrill.NOTHING, fault != 0);
            }
        }
        System.out.println("faults 0 to 5 came " + Arrays.toString(faults));
        for (int count : faults) {
            CHECK.is("each fault came often", count > 50, true);
        }
        CHECK.finish();
    }

    private static String spoil(String text, Random random) {
        int at = random.nextInt(text.length() + 1);
        int until = Math.min(text.length(), at + 1 + random.nextInt(random.nextInt(4) == 0 ? 30 : 3));
        String piece = PIECES[random.nextInt(PIECES.length)];
        switch (random.nextInt(9)) {
            case 0: return text.substring(0, at) + text.substring(until);
            case 1: return text.substring(0, at) + piece + text.substring(at);
            case 2: return text.substring(0, at) + " " + piece + " " + text.substring(at);
            case 3: return text.substring(0, at) + piece + text.substring(until);
            case 4: return text.substring(0, at);
            case 5: {
                int other = text.indexOf(';', at);
                int end = other < 0 ? -1 : text.indexOf(';', other + 1);
                return end < 0 ? text : text + text.substring(other + 1, end + 1);
            }
            case 6: return text;
            default: return otherWord(text, at, random);
        }
    }

    /** Another number for the first one behind the place, or another name. */
    private static String otherWord(String text, int from, Random random) {
        boolean number = random.nextBoolean();
        int at = from;
        while (at < text.length() && (number ? !Character.isDigit(text.charAt(at)) : !Character.isLetter(text.charAt(at)))) {
            at++;
        }
        int end = at;
        while (end < text.length() && (number ? Character.isDigit(text.charAt(end)) : Character.isLetter(text.charAt(end)))) {
            end++;
        }
        String other = number ? Integer.toString(random.nextInt(25)) : "abcdefghpqrstx".substring(random.nextInt(14)).substring(0, 1);
        return text.substring(0, at) + other + text.substring(end);
    }

    /** A word, a number or one other byte. */
    private static final class Token {
        final String text;
        final int at;
        final boolean glued;

        Token(String text, int at, boolean glued) {
            this.text = text;
            this.at = at;
            this.glued = glued;
        }

        boolean isWord() {
            return text.charAt(0) >= 'a' && text.charAt(0) <= 'z';
        }

        boolean isNumber() {
            return text.charAt(0) >= '0' && text.charAt(0) <= '9';
        }
    }

    /** Rules by name; what stands in capitals is a rule, NAME or NUM, all else stands for itself. */
    private static final class Grammar {
        final Map<String, List<String[]>> rules = new LinkedHashMap<>();

        void rule(String name, String... choices) {
            List<String[]> rows = new ArrayList<>();
            for (String choice : choices) {
                rows.add(choice.isEmpty() ? new String[0] : choice.split(" "));
            }
            rules.put(name, rows);
        }

        static Grammar ofHouses() {
            Grammar g = new Grammar();
            g.rule("START", "", "START STATEMENT ;");
            g.rule("STATEMENT", "room NAME", "stair NAME to NAME wide NUM", "part NAME post NUM",
                "clerk NAME in NAME of NAME pace NUM bag NUM", "turns TEST", "dear SUM", "hears NUM", "signs NUM", "smoke NUM");
            g.formulas("", "pace bag drill minute crowd", "TEST");
            g.formulas("D", "pace bag drill other long", "TEST");
            g.rule("STATEMENT", "room NAME", "stair NAME to NAME wide NUM", "part NAME post NUM",
                "clerk NAME in NAME of NAME pace NUM bag NUM", "turns TEST", "dear DSUM", "hears NUM", "signs NUM", "smoke NUM");
            return g;
        }

        static Grammar ofQuestions() {
            Grammar g = new Grammar();
            g.rule("START", "first TEST", "last TEST", "often TEST", "total SUM", "most SUM", "least SUM");
            g.formulas("", "number pace bag post out signed drill MEETS", "TEST");
            g.rule("MEETS", "meets PART");
            return g;
        }

        private void formulas(String mark, String leaves, String test) {
            String sum = mark + "SUM";
            String product = mark + "PRODUCT";
            String part = mark + "PART";
            rule(mark + test, mark + "BOTH", mark + test + " or " + mark + "BOTH");
            rule(mark + "BOTH", mark + "FACT", mark + "BOTH and " + mark + "FACT");
            rule(mark + "FACT", "not " + mark + "FACT", "[ " + mark + test + " ]", "all", sum + " < " + sum, sum + " > " + sum, sum + " = " + sum);
            rule(sum, product, sum + " + " + product, sum + " - " + product);
            rule(product, part, product + " * " + part, product + " / " + part);
            List<String> parts = new ArrayList<>(List.of("NUM", "( " + sum + " )", "min ( " + sum + " , " + sum + " )",
                "max ( " + sum + " , " + sum + " )"));
            parts.addAll(Arrays.asList(leaves.split(" ")));
            rule(part, parts.toArray(new String[0]));
        }
    }

    /** Earley's items: a rule's choice, how far it is read, and where it began. */
    private static final class Item {
        final String rule;
        final int choice;
        final int dot;
        final int from;

        Item(String rule, int choice, int dot, int from) {
            this.rule = rule;
            this.choice = choice;
            this.dot = dot;
            this.from = from;
        }

        @Override
        public boolean equals(Object o) {
            return o instanceof Item i && i.rule.equals(rule) && i.choice == choice && i.dot == dot && i.from == from;
        }

        @Override
        public int hashCode() {
            return ((rule.hashCode() * 31 + choice) * 31 + dot) * 31 + from;
        }
    }

    private static final class Reader {
        private final String text;
        private final Grammar grammar;
        private final boolean house;
        private final List<Token> tokens = new ArrayList<>();
        private long first = Long.MAX_VALUE;

        Reader(String text, Grammar grammar, boolean house) {
            this.text = text;
            this.grammar = grammar;
            this.house = house;
            int k = 0;
            int wordEnd = -1;
            while (k < text.length()) {
                char c = text.charAt(k);
                if (c == ' ' || c == '\n') {
                    k++;
                    continue;
                }
                int end = k + 1;
                boolean letter = c >= 'a' && c <= 'z';
                boolean digit = c >= '0' && c <= '9';
                while (end < text.length() && (letter && text.charAt(end) >= 'a' && text.charAt(end) <= 'z'
                    || digit && text.charAt(end) >= '0' && text.charAt(end) <= '9')) {
                    end++;
                }
                tokens.add(new Token(text.substring(k, end), k, (letter || digit) && wordEnd == k));
                wordEnd = letter || digit ? end : -1;
                k = end;
            }
        }

        /** The fault in the upper half, its place in the lower. */
        long fault() {
            int read = readable();
            if (house) {
                lookAtStatements(read);
            }
            lookAtDepth(read);
            if (first == Long.MAX_VALUE) {
                return 0L << 32 | 0xffffffffL;
            }
            long place = first / 10;
            long fault = 9 - first % 10;
            return fault << 32 | place;
        }

        /** Of two faults at one place that of the greater number: an 81st statement is one whatever stands there. */
        private void tell(int fault, int place) {
            first = Math.min(first, place * 10L + 9 - fault);
        }

        /** How many tokens a text can begin with; tells fault 1 at the next. */
        private int readable() {
            List<Set<Item>> sets = new ArrayList<>();
            Set<Item> here = new LinkedHashSet<>();
            for (int c = 0; c < grammar.rules.get("START").size(); c++) {
                here.add(new Item("START", c, 0, 0));
            }
            for (int k = 0; ; k++) {
                sets.add(here);
                Set<String> asked = new HashSet<>();
                boolean over = close(here, sets, k, asked);
                if (k == tokens.size()) {
                    if (!over) {
                        tell(1, text.length());
                    }
                    return k;
                }
                Token token = tokens.get(k);
                Set<Item> next = new LinkedHashSet<>();
                for (Item i : here) {
                    String[] row = grammar.rules.get(i.rule).get(i.choice);
                    if (i.dot < row.length && fits(row[i.dot], token)) {
                        next.add(new Item(i.rule, i.choice, i.dot + 1, i.from));
                    }
                }
                if (next.isEmpty()) {
                    tell(1, placeOf(token, asked));
                    return k;
                }
                here = next;
            }
        }

        private static int placeOf(Token t, Set<String> asked) {
            if (!t.glued && t.isWord() && asked.contains("NAME") && t.text.length() > 6) {
                return t.at + 6;
            }
            return !t.glued && t.isNumber() && asked.contains("NUM") && t.text.length() > 4 ? t.at + 4 : t.at;
        }

        private static boolean fits(String symbol, Token t) {
            if (t.glued) {
                return false;
            }
            if (symbol.equals("NAME")) {
                return t.isWord() && t.text.length() <= 6 && !OWN.contains(t.text);
            }
            return symbol.equals("NUM") ? t.isNumber() && t.text.length() <= 4 : symbol.equals(t.text);
        }

        private boolean close(Set<Item> here, List<Set<Item>> sets, int at, Set<String> asked) {
            Deque<Item> open = new ArrayDeque<>(here);
            boolean over = false;
            while (!open.isEmpty()) {
                Item i = open.remove();
                String[] row = grammar.rules.get(i.rule).get(i.choice);
                if (i.dot == row.length) {
                    over |= i.rule.equals("START") && i.from == 0;
                    for (Item j : new ArrayList<>(sets.get(i.from))) {
                        String[] waiting = grammar.rules.get(j.rule).get(j.choice);
                        if (j.dot < waiting.length && waiting[j.dot].equals(i.rule)) {
                            add(new Item(j.rule, j.choice, j.dot + 1, j.from), here, open);
                        }
                    }
                } else if (grammar.rules.containsKey(row[i.dot])) {
                    for (int c = 0; c < grammar.rules.get(row[i.dot]).size(); c++) {
                        add(new Item(row[i.dot], c, 0, at), here, open);
                    }
                    // An empty START is over where it begins.
                    if (row[i.dot].equals("START")) {
                        add(new Item(i.rule, i.choice, i.dot + 1, i.from), here, open);
                    }
                } else {
                    asked.add(row[i.dot]);
                }
            }
            return over;
        }

        private static void add(Item i, Set<Item> here, Deque<Item> open) {
            if (here.add(i)) {
                open.add(i);
            }
        }

        private final Map<String, String> kinds = new HashMap<>();
        private final Set<String> stairs = new HashSet<>();

        /** Faults 2, 3 and 5 along the first tokens. */
        private void lookAtStatements(int read) {
            Map<String, Integer> most = Map.of("room", 8, "stair", 10, "part", 5, "clerk", 8, "turns", 1, "dear", 1);
            Map<String, Integer> told = new HashMap<>();
            int begin = 0;
            int statements = 0;
            while (begin <= read && begin < tokens.size()) {
                Token head = tokens.get(begin);
                statements++;
                if (statements > 80) {
                    tell(5, head.at);
                    return;
                }
                if (begin == read) {
                    return;
                }
                int end = begin;
                while (end < read && !tokens.get(end).text.equals(";")) {
                    end++;
                }
                if (told.merge(head.text, 1, Integer::sum) > most.getOrDefault(head.text, 1000)) {
                    tell(5, head.at);
                    return;
                }
                lookAtNames(head.text, begin, end);
                lookAtNumbers(head.text, begin, end);
                begin = end + 1;
            }
        }

        private void lookAtNames(String head, int begin, int end) {
            for (int k = begin + 1; k < end; k++) {
                Token t = tokens.get(k);
                String ahead = tokens.get(k - 1).text;
                if (head.equals("stair") && (k == begin + 1 || k == begin + 3) || head.equals("clerk") && ahead.equals("in")) {
                    if (!"room".equals(kinds.get(t.text))) {
                        tell(3, t.at);
                    }
                } else if (head.equals("clerk") && ahead.equals("of")) {
                    if (!"part".equals(kinds.get(t.text))) {
                        tell(3, t.at);
                    }
                } else if (k == begin + 1 && Set.of("room", "part", "clerk").contains(head)) {
                    if (kinds.containsKey(t.text)) {
                        tell(3, t.at);
                    }
                    kinds.putIfAbsent(t.text, head);
                }
                if (head.equals("stair") && k == begin + 3) {
                    String one = tokens.get(begin + 1).text;
                    if (one.equals(t.text) || stairs.contains(one + " " + t.text)) {
                        tell(3, t.at);
                    }
                    stairs.add(one + " " + t.text);
                    stairs.add(t.text + " " + one);
                }
            }
        }

        private void lookAtNumbers(String head, int begin, int end) {
            if (head.equals("turns") || head.equals("dear")) {
                return;
            }
            Map<String, int[]> ranges = Map.of("wide", new int[] {1, 4}, "post", new int[] {0, 20}, "pace", new int[] {1, 3},
                "bag", new int[] {0, 9}, "hears", new int[] {0, 20}, "signs", new int[] {1, 9}, "smoke", new int[] {0, 100});
            for (int k = begin + 1; k < end; k++) {
                Token t = tokens.get(k);
                if (t.isNumber()) {
                    int[] range = ranges.get(tokens.get(k - 1).text);
                    int n = Integer.parseInt(t.text);
                    if (n < range[0] || n > range[1]) {
                        tell(2, t.at);
                    }
                }
            }
        }

        /** Fault 4: what is open, by a stack over the signs alone. */
        private void lookAtDepth(int read) {
            Deque<String> open = new ArrayDeque<>();
            for (int k = 0; k < read; k++) {
                Token t = tokens.get(k);
                switch (t.text) {
                    case "(": case "[": case "not": case "meets":
                        open.push(t.text);
                        if (open.size() > 6) {
                            tell(4, t.at);
                            return;
                        }
                        break;
                    case ")":
                        open.pop();
                        shutAll(open, "meets");
                        break;
                    case "and": case "or": case ";":
                        shutAll(open, "not");
                        break;
                    case "]":
                        shutAll(open, "not");
                        open.pop();
                        shutAll(open, "not");
                        break;
                    case "min": case "max": case "+": case "-": case "*": case "/": case ",": case "<": case ">": case "=":
                        break;
                    default:
                        shutAll(open, "meets");
                }
            }
        }

        private static void shutAll(Deque<String> open, String what) {
            while (!open.isEmpty() && open.peek().equals(what)) {
                open.pop();
            }
        }
    }
}
