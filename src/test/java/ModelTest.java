import java.math.BigInteger;
import java.util.ArrayDeque;
import java.util.ArrayList;
import java.util.Arrays;
import java.util.Deque;
import java.util.HashSet;
import java.util.List;
import java.util.Random;
import java.util.Set;

/** Long random runs of calls, each answer held against a plain model of the document. */
public final class ModelTest {
    private static final int RUNS = 150;
    private static final int CALLS = 512;
    private static int wrong = 0;

    public static void main(String[] args) {
        int runs = args.length > 0 ? Integer.parseInt(args[0]) : RUNS;
        long base = args.length > 1 ? Long.parseLong(args[1]) : 20261118L;
        for (int i = 0; i < runs && wrong < 20; i++) {
            new Run(base + i).go();
        }
        System.out.println(wrong == 0 ? "all answers are as the model's" : wrong + " answers are not as the model's");
        if (wrong != 0) {
            System.exit(1);
        }
    }

    private static void check(long seed, List<String> calls, String call, long got, long want) {
        calls.add(call);
        if (got != want && wrong < 20) {
            wrong++;
            System.out.println("run " + seed + ", call " + calls.size() + ": " + call + " answered " + got
                + ", the model " + want);
        }
    }

    private static final class Run {
        final long seed;
        final Random random;
        final RedGlass glass = new RedGlass();
        final Model model = new Model();
        final List<String> calls = new ArrayList<>();
        final boolean isSparse;

        Run(long seed) {
            this.seed = seed;
            random = new Random(seed);
            isSparse = random.nextInt(2) == 0;
        }

        void go() {
            if (isSparse) {
                stormAllBut(random.nextInt(5));
            }
            while (calls.size() < CALLS && wrong < 20) {
                step();
                check("status()", glass.status(), model.status);
                for (int what = -1; what <= 16; what++) {
                    long got = glass.count(what);
                    if (got != model.count(what)) {
                        check("count(" + what + ")", got, model.count(what));
                    }
                }
            }
        }

        void check(String call, long got, long want) {
            ModelTest.check(seed, calls, call, got, want);
        }

        /** A number of a range, now and then just or far beyond it. */
        int about(int low, int high) {
            int dice = random.nextInt(40);
            if (dice == 0) {
                return low - 1;
            } else if (dice == 1) {
                return high + 1;
            } else if (dice == 2) {
                return random.nextBoolean() ? Integer.MAX_VALUE : Integer.MIN_VALUE;
            }
            return low + random.nextInt(high - low + 1);
        }

        int rock() {
            return random.nextInt(20) == 0 ? about(0, 8) : about(0, model.rocks - 1);
        }

        int night() {
            return random.nextInt(3) == 0 ? about(0, 5) : about(0, 59);
        }

        void stormAllBut(int open) {
            Set<Integer> calm = new HashSet<>();
            while (calm.size() < open) {
                calm.add(random.nextInt(59));
            }
            byte[] bytes = new byte[60];
            for (int i = 0; i < 60; i++) {
                bytes[i] = (byte) (calm.contains(i) ? 200 : i);
            }
            feed(bytes);
            check("row()", glass.row(), model.row());
            check("spray()", glass.spray(), model.spray);
        }

        void feed(byte[] bytes) {
            int before = model.tape.size();
            for (int i = 0; i < bytes.length; i += 20) {
                int[] five = new int[5];
                for (int j = 0; j < 20; j++) {
                    int b = i + j < bytes.length ? bytes[i + j] & 255 : 32;
                    five[j / 4] |= b << (24 - j % 4 * 8);
                }
                check("feed(" + Arrays.toString(five) + ")", glass.feed(five[0], five[1], five[2], five[3], five[4]),
                    model.feed(five));
            }
            int n = before + bytes.length;
            check("end(" + n + ")", glass.end(n), model.end(n));
        }

        void step() {
            switch (random.nextInt(isSparse ? 34 : 36)) {
                case 0: case 1: terms(); break;
                case 2: case 3: case 34: case 35: storm(); break;
                case 4: case 5: wed(); break;
                case 6: { int k = about(0, Math.max(0, model.weddings.size() - 1));
                    check("jilt(" + k + ")", glass.jilt(k), model.jilt(k)); break; }
                case 7: if (random.nextInt(8) == 0) { rawRow(); } break;
                case 8: case 9: law(); break;
                case 10: case 11: { int k = about(-1, Math.max(0, model.laws.size() - 1));
                    check("force(" + k + ")", glass.force(k), model.force(k)); break; }
                case 12: case 13: { int a = rock(), b = rock(), n = night();
                    check("goes(" + a + ", " + b + ", " + n + ")", glass.goes(a, b, n), model.goes(a, b, n)); break; }
                case 14: { int a = rock(), n = night(), w = about(0, 1);
                    check("of(" + a + ", " + n + ", " + w + ")", glass.of(a, n, w), model.of(a, n, w)); break; }
                case 15: { int a = rock(), b = rock(), n = night();
                    check("will(" + a + ", " + b + ", " + n + ")", glass.will(a, b, n), model.will(a, b, n)); break; }
                case 16: case 17: case 18: oar(); break;
                case 19: if (random.nextInt(4) == 0) { check("unrow()", glass.unrow(), model.unrow()); } break;
                case 20: { int n = random.nextBoolean() ? about(0, 59) : about(0, model.trail.size());
                    check("trail(" + n + ")", glass.trail(n), model.trail(n));
                    check("unwarned()", glass.unwarned(), model.unwarned()); break; }
                case 21: case 22: case 23: { int a = rock(), n = night(), r = about(0, 1);
                    check("report(" + a + ", " + n + ", " + r + ")", glass.report(a, n, r), model.report(a, n, r));
                    break; }
                case 24: { int k = about(0, Math.max(0, model.reports.size() - 1));
                    check("burn(" + k + ")", glass.burn(k), model.burn(k)); break; }
                case 25: case 26: sightings(); break;
                case 27: round(); break;
                case 28: { int a = rock(), n = night(), b = rock();
                    check("reach(" + a + ", " + n + ", " + b + ")", glass.reach(a, n, b), model.reach(a, n, b));
                    break; }
                case 29: guard(); break;
                case 30: { int c = about(0, 11), w = about(0, 99);
                    check("sea(" + c + ", " + w + ")", glass.sea(c, w), model.sea(c, w)); break; }
                case 31: { int n = about(0, 6), w = about(0, 2);
                    check("search(" + n + ", " + w + ")", glass.search(n, w), model.search(n, w)); break; }
                case 32: year(); break;
                default: images(); break;
            }
        }

        void terms() {
            int what = random.nextInt(8) == 0 ? about(0, 2) : 1 + random.nextInt(2);
            int value = what == 0 ? about(1, 9) : what == 1 ? about(0, 9) : about(1, 100);
            check("terms(" + what + ", " + value + ")", glass.terms(what, value), model.terms(what, value));
        }

        void storm() {
            int night = night();
            int is = isSparse && random.nextInt(5) != 0 ? 1 : about(0, 1);
            if (isSparse && model.openNights() >= 5) {
                is = 1;
            }
            check("storm(" + night + ", " + is + ")", glass.storm(night, is), model.storm(night, is));
        }

        void wed() {
            int rock = rock(), from = night();
            int till = random.nextInt(5) == 0 ? night() : from + random.nextInt(6);
            check("wed(" + rock + ", " + from + ", " + till + ")", glass.wed(rock, from, till),
                model.wed(rock, from, till));
        }

        void rawRow() {
            byte[] bytes = new byte[random.nextInt(12)];
            for (int i = 0; i < bytes.length; i++) {
                bytes[i] = (byte) (random.nextInt(3) == 0 ? random.nextInt(256) : random.nextInt(60));
            }
            feed(bytes);
            check("row()", glass.row(), model.row());
            check("spray()", glass.spray(), model.spray);
        }

        void law() {
            String text = new Texts(random).text();
            byte[] bytes = new byte[Math.min(400, text.length())];
            for (int i = 0; i < bytes.length; i++) {
                bytes[i] = (byte) text.charAt(i);
            }
            feed(bytes);
            int got = glass.law();
            check("law() of '" + text + "'", got, model.law());
            check("fault() of '" + text + "'", glass.fault(), model.fault);
            if (got >= 0 && random.nextInt(3) != 0) {
                check("force(" + got + ")", glass.force(got), model.force(got));
            }
        }

        void oar() {
            int to = random.nextInt(3) == 0 ? model.trail.get(model.trail.size() - 1) : rock();
            check("oar(" + to + ")", glass.oar(to), model.oar(to));
        }

        void sightings() {
            int night = night(), what = about(0, 1), which = about(0, 1);
            int place = random.nextInt(6);
            if (place == 0) {
                check("lies()", glass.lies(), model.lies());
                check("ways()", glass.ways(), model.ways());
            }
            check("could(" + night + ")", glass.could(night), model.could(night));
            check("likely(" + night + ", " + what + ")", glass.likely(night, what), model.likely(night, what));
            check("liars(" + which + ")", glass.liars(which), model.liars(which));
        }

        void round() {
            int rock = rock(), night = night();
            int rocks = random.nextInt(10) == 0 ? about(0, 511) : about(0, (1 << model.rocks) - 1);
            for (int i = -1; i < 4; i++) {
                int which = i < 0 ? i : about(0, random.nextInt(2) == 0 ? 5 : 20);
                check("round(" + rock + ", " + night + ", " + rocks + ", " + which + ")",
                    glass.round(rock, night, rocks, which), model.round(rock, night, rocks, which));
            }
        }

        void guard() {
            int rock = rock(), a = night();
            int b = random.nextInt(4) == 0 ? night() : Math.min(59, a + random.nextInt(12));
            for (int i = -1; i < 4; i++) {
                int which = i < 0 ? i : about(0, Math.max(0, Math.min(b - a, 59)));
                check("guard(" + rock + ", " + a + ", " + b + ", " + which + ")",
                    glass.guard(rock, a, b, which), model.guard(rock, a, b, which));
            }
        }

        void year() {
            int start = about(0, 1_000_000), rock = rock();
            check("year(" + start + ", " + rock + ")", glass.year(start, rock), model.year(start, rock));
            for (int i = 0; i < 3; i++) {
                int night = about(0, 59);
                check("drawn(" + night + ")", glass.drawn(night), model.drawn(night));
            }
        }

        void images() {
            int k = about(0, 1);
            if (random.nextInt(2) == 0) {
                check("image(" + k + ")", glass.image(k), model.image(k));
            } else {
                check("back(" + k + ")", glass.back(k), model.back(k));
            }
        }
    }

    /** Random TEXTS, most of them LAWS. */
    private static final class Texts {
        static final String[] WORDS = {"rock", "to", "night", "storm", "mood", "far"};
        static final String[] ODD = {"danger", "will", "bars", "if", "or", "and", "not", "rock", "to", "night", "far",
            "+", "-", "*", "/", "<", ">", "=", "(", ")", "[", "]", ";", "1", "1000", "1001", "x", "Rock", "\u00e9", "\t",
            "rocks", "99999999999", "0001000", "00001001"};
        final Random random;

        Texts(Random random) {
            this.random = random;
        }

        String text() {
            if (random.nextInt(25) == 0) {
                return " ".repeat(random.nextInt(5));
            }
            StringBuilder text = new StringBuilder();
            int clauses = random.nextInt(12) == 0 ? 10 + random.nextInt(6) : 1 + random.nextInt(4);
            for (int i = 0; i < clauses; i++) {
                if (i > 0) {
                    put(text, ";");
                }
                clause(text, clauses > 6);
            }
            int changes = random.nextInt(4) == 0 ? 1 + random.nextInt(2) : 0;
            for (int i = 0; i < changes; i++) {
                spoil(text);
            }
            return text.toString();
        }

        void spoil(StringBuilder text) {
            int at = random.nextInt(text.length() + 1);
            if (random.nextInt(3) == 0) {
                text.setLength(at);
            } else if (random.nextInt(2) == 0 && at < text.length()) {
                text.deleteCharAt(at);
            } else {
                text.insert(at, " " + ODD[random.nextInt(ODD.length)] + " ");
            }
        }

        void put(StringBuilder text, String token) {
            char last = text.length() == 0 ? ' ' : text.charAt(text.length() - 1);
            boolean mustPart = Character.isLetter(last) && Character.isLetter(token.charAt(0))
                || Character.isDigit(last) && Character.isDigit(token.charAt(0));
            if (mustPart || random.nextInt(6) == 0) {
                text.append(" ".repeat(1 + random.nextInt(random.nextInt(9) == 0 ? 3 : 1)));
            }
            text.append(token);
        }

        void clause(StringBuilder text, boolean isShort) {
            int kind = random.nextInt(3);
            put(text, kind == 0 ? "danger" : kind == 1 ? "will" : "bars");
            if (kind < 2) {
                sum(text, isShort ? 8 : 0);
            }
            if (random.nextInt(isShort ? 4 : kind == 2 ? 20 : 2) != (kind == 2 && !isShort ? 0 : 1)) {
                put(text, "if");
                test(text, isShort ? 8 : 0);
            }
        }

        boolean goesOn(int depth) {
            return random.nextInt(3 + depth) == 0;
        }

        void test(StringBuilder text, int depth) {
            both(text, depth);
            while (goesOn(depth)) {
                put(text, "or");
                both(text, depth + 1);
            }
        }

        void both(StringBuilder text, int depth) {
            plain(text, depth);
            while (goesOn(depth)) {
                put(text, "and");
                plain(text, depth + 1);
            }
        }

        void plain(StringBuilder text, int depth) {
            int dice = random.nextInt(8);
            if (dice == 0) {
                put(text, "not");
                plain(text, depth);
            } else if (dice == 1 && depth < 7 || dice == 2 && depth < 10 && random.nextInt(3) == 0) {
                put(text, "(");
                test(text, depth + 1);
                put(text, ")");
            } else {
                sum(text, depth);
                int which = random.nextInt(3);
                put(text, which == 0 ? "<" : which == 1 ? ">" : "=");
                sum(text, depth);
            }
        }

        void sum(StringBuilder text, int depth) {
            term(text, depth);
            while (goesOn(depth)) {
                put(text, random.nextBoolean() ? "+" : "-");
                term(text, depth + 1);
            }
        }

        void term(StringBuilder text, int depth) {
            part(text, depth);
            while (goesOn(depth)) {
                put(text, random.nextBoolean() ? "*" : "/");
                part(text, depth + 1);
            }
        }

        void part(StringBuilder text, int depth) {
            int dice = random.nextInt(10);
            if (dice == 0 && depth < 12) {
                put(text, "[");
                sum(text, depth + 1);
                put(text, "]");
            } else if (dice < 4) {
                int[] numbers = {0, 1, 2, 3, 5, 10, 30, 99, 100, 999, 1000};
                put(text, String.valueOf(numbers[random.nextInt(numbers.length)]));
            } else {
                put(text, WORDS[random.nextInt(WORDS.length)]);
            }
        }
    }

    /** A TEXT cut into TOKENS: what they are, where they begin. */
    private static final class Tokens {
        final List<String> words = new ArrayList<>();
        final List<Integer> places = new ArrayList<>();

        Tokens(List<Integer> bytes) {
            StringBuilder text = new StringBuilder();
            for (int b : bytes) {
                text.append((char) b);
            }
            java.util.regex.Matcher m = java.util.regex.Pattern.compile("[a-z]+|[0-9]+|[^ ]", java.util.regex.Pattern.DOTALL)
                .matcher(text);
            while (m.find()) {
                words.add(m.group());
                places.add(m.start());
            }
            words.add("");
            places.add(text.length());
        }
    }

    /** Follows all derivations of the grammar at once, so a FAULT is where none is left. */
    private static final class Grammar {
        static final String[][] RULES = {
            {"L", "C", "Ls"}, {"Ls"}, {"Ls", ";", "C", "Ls"},
            {"C", "H", "I"}, {"H", "danger", "S"}, {"H", "will", "S"}, {"H", "bars"}, {"I"}, {"I", "if", "T"},
            {"T", "B", "Ts"}, {"Ts"}, {"Ts", "or", "B", "Ts"},
            {"B", "P", "Bs"}, {"Bs"}, {"Bs", "and", "P", "Bs"},
            {"P", "not", "P"}, {"P", "(", "T", ")"}, {"P", "S", "Q", "S"}, {"Q", "<"}, {"Q", ">"}, {"Q", "="},
            {"S", "M", "Ss"}, {"Ss"}, {"Ss", "+", "M", "Ss"}, {"Ss", "-", "M", "Ss"},
            {"M", "A", "Ms"}, {"Ms"}, {"Ms", "*", "A", "Ms"}, {"Ms", "/", "A", "Ms"},
            {"A", "#"}, {"A", "[", "S", "]"}};

        /** The place of the FAULT, or -1. */
        static int fault(List<Integer> bytes) {
            Tokens tokens = new Tokens(bytes);
            Set<List<String>> stacks = new HashSet<>();
            stacks.add(List.of("L"));
            int clauses = 0, parts = 0, open = 0;
            for (int i = 0; i < tokens.words.size(); i++) {
                String word = kind(tokens.words.get(i));
                boolean isClause = word.equals("danger") || word.equals("will") || word.equals("bars");
                clauses += isClause ? 1 : 0;
                parts += word.equals("#") ? 1 : 0;
                open += word.equals("(") || word.equals("[") ? 1 : word.equals(")") || word.equals("]") ? -1 : 0;
                stacks = after(stacks, word);
                if (stacks.isEmpty() || clauses > 12 || parts > 50 || open > 8) {
                    return tokens.places.get(i);
                }
            }
            return -1;
        }

        static String kind(String word) {
            if (word.matches("[0-9]+")) {
                return new BigInteger(word).compareTo(BigInteger.valueOf(1000)) <= 0 ? "#" : "?";
            }
            if (word.equals("#") || word.equals("?") || word.matches("[A-Z].*")) {
                return "?";
            }
            return Arrays.asList(Texts.WORDS).contains(word) ? "#" : word;
        }

        static Set<List<String>> after(Set<List<String>> stacks, String word) {
            Set<List<String>> next = new HashSet<>();
            Deque<List<String>> work = new ArrayDeque<>(stacks);
            Set<List<String>> seen = new HashSet<>(stacks);
            while (!work.isEmpty()) {
                List<String> stack = work.pop();
                if (stack.isEmpty()) {
                    if (word.isEmpty()) {
                        next.add(stack);
                    }
                    continue;
                }
                String head = stack.get(0);
                List<String> rest = stack.subList(1, stack.size());
                if (head.equals(word)) {
                    next.add(new ArrayList<>(rest));
                }
                for (String[] rule : RULES) {
                    if (rule[0].equals(head)) {
                        List<String> grown = new ArrayList<>(Arrays.asList(rule).subList(1, rule.length));
                        grown.addAll(rest);
                        if (seen.add(grown)) {
                            work.push(grown);
                        }
                    }
                }
            }
            return next;
        }
    }

    private static final class Broken extends Exception {
        private static final long serialVersionUID = 1L;
    }

    /** Reads a good LAW anew each time that it is asked. */
    private static final class Interpreter {
        static final BigInteger FARTHEST = BigInteger.valueOf(1_000_000_000L);
        final List<String> words;
        final int[] values;
        int at;
        /** Above 0: read on, but ask nothing. */
        int silent;

        Interpreter(List<String> words, int[] values) {
            this.words = words;
            this.values = values;
        }

        /** By kind (danger, will, bars): what the last that HOLDS tells (bars: 1), or null. */
        BigInteger told(String kind) {
            BigInteger last = null;
            int start = 0;
            for (int i = 0; i < words.size(); i++) {
                if (words.get(i).equals(";") || words.get(i).isEmpty()) {
                    BigInteger told = words.get(start).equals(kind) ? clause(start, i) : null;
                    last = told == null ? last : told;
                    start = i + 1;
                }
            }
            return last;
        }

        BigInteger clause(int from, int till) {
            int iff = words.subList(from, till).indexOf("if");
            try {
                BigInteger sum = BigInteger.ONE;
                if (!words.get(from).equals("bars")) {
                    at = from + 1;
                    sum = sum();
                }
                at = from + iff + 1;
                return iff < 0 || test() ? sum : null;
            } catch (Broken e) {
                silent = 0;
                return null;
            }
        }

        boolean next(String word) {
            if (words.get(at).equals(word)) {
                at++;
                return true;
            }
            return false;
        }

        boolean test() throws Broken {
            boolean so = both();
            while (next("or")) {
                silent += so ? 1 : 0;
                boolean behind = both();
                silent -= so ? 1 : 0;
                so = so || behind;
            }
            return so;
        }

        boolean both() throws Broken {
            boolean so = plain();
            while (next("and")) {
                silent += so ? 0 : 1;
                boolean behind = plain();
                silent -= so ? 0 : 1;
                so = so && behind;
            }
            return so;
        }

        boolean plain() throws Broken {
            if (next("not")) {
                return !plain();
            }
            if (next("(")) {
                boolean so = test();
                at++;
                return so;
            }
            BigInteger left = sum();
            String how = words.get(at);
            at++;
            int compared = left.compareTo(sum());
            return how.equals("<") ? compared < 0 : how.equals(">") ? compared > 0 : compared == 0;
        }

        BigInteger sum() throws Broken {
            BigInteger value = term();
            while (true) {
                if (next("+")) {
                    value = kept(value.add(term()));
                } else if (next("-")) {
                    value = kept(value.subtract(term()));
                } else {
                    return value;
                }
            }
        }

        BigInteger term() throws Broken {
            BigInteger value = part();
            while (true) {
                if (next("*")) {
                    value = kept(value.multiply(part()));
                } else if (next("/")) {
                    BigInteger by = part();
                    if (silent == 0 && by.signum() == 0) {
                        throw new Broken();
                    }
                    value = silent > 0 ? BigInteger.ZERO : kept(value.divide(by));
                } else {
                    return value;
                }
            }
        }

        BigInteger kept(BigInteger value) throws Broken {
            if (silent == 0 && value.abs().compareTo(FARTHEST) > 0) {
                throw new Broken();
            }
            return value;
        }

        BigInteger part() throws Broken {
            String word = words.get(at);
            at++;
            if (word.equals("[")) {
                BigInteger value = sum();
                at++;
                return value;
            }
            for (int i = 0; i < Texts.WORDS.length; i++) {
                if (Texts.WORDS[i].equals(word)) {
                    return BigInteger.valueOf(values[i]);
                }
            }
            return new BigInteger(word);
        }
    }

    private static final class Model {
        int rocks = 9, mood = 0, sure = 50, inForce = -1, status = 0, spray = 0, fault = -1;
        boolean[] storms = new boolean[60];
        List<int[]> weddings = new ArrayList<>(), reports = new ArrayList<>();
        List<List<String>> laws = new ArrayList<>();
        List<Integer> trail = new ArrayList<>(List.of(0)), tape = new ArrayList<>();
        int[] weights = new int[12], refused = new int[7], year;
        Model[] images = new Model[2];
        /** What was worked out since the last change; it is thrown away with each call that could change anything. */
        private Boolean[][][] boats = new Boolean[60][9][9];
        private Integer[][] dangers = new Integer[60][9];
        private Solved solved;

        int refuse(int why) {
            refused[-why]++;
            status = why;
            return why;
        }

        int accept(int answer) {
            status = 0;
            boats = new Boolean[60][9][9];
            dangers = new Integer[60][9];
            solved = null;
            return answer;
        }

        static boolean in(int x, int low, int high) {
            return low <= x && x <= high;
        }

        boolean rock(int r) {
            return in(r, 0, rocks - 1);
        }

        int openNights() {
            int open = 0;
            for (int i = 0; i < 59; i++) {
                open += storms[i] ? 0 : 1;
            }
            return open;
        }

        int terms(int what, int value) {
            if (what == 0 && in(value, 1, 9)) {
                int was = rocks;
                rocks = value;
                weddings.clear();
                reports.clear();
                trail = new ArrayList<>(List.of(0));
                return accept(was);
            } else if (what == 1 && in(value, 0, 9)) {
                int was = mood;
                mood = value;
                return accept(was);
            } else if (what == 2 && in(value, 1, 100)) {
                int was = sure;
                sure = value;
                return accept(was);
            }
            return refuse(-1);
        }

        int storm(int night, int is) {
            if (!in(night, 0, 59) || !in(is, 0, 1)) {
                return refuse(-1);
            }
            int was = storms[night] ? 1 : 0;
            storms[night] = is == 1;
            return accept(was);
        }

        int wed(int rock, int from, int till) {
            if (!in(from, 0, 59) || !in(till, 0, 59) || till < from) {
                return refuse(-1);
            } else if (!rock(rock)) {
                return refuse(-2);
            } else if (weddings.size() == 4) {
                return refuse(-5);
            }
            weddings.add(new int[] {rock, from, till});
            return accept(weddings.size() - 1);
        }

        int jilt(int wedding) {
            if (!in(wedding, 0, weddings.size() - 1)) {
                return refuse(-2);
            }
            weddings.remove(wedding);
            return accept(weddings.size());
        }

        int feed(int[] five) {
            if (tape.size() > 380) {
                return -1;
            }
            for (int four : five) {
                for (byte b : BigInteger.valueOf(four & 0xFFFFFFFFL | 1L << 32).toByteArray()) {
                    tape.add(b & 255);
                }
                tape.remove(tape.size() - 5);
            }
            return tape.size();
        }

        int end(int n) {
            if (!in(n, 0, tape.size())) {
                return -1;
            }
            tape = new ArrayList<>(tape.subList(0, n));
            return n;
        }

        int row() {
            if (tape.isEmpty()) {
                return refuse(-6);
            }
            spray = 0;
            int became = 0;
            for (int b : tape) {
                if (b > 59) {
                    spray++;
                } else {
                    became += storms[b] ? 0 : 1;
                    storms[b] = true;
                }
            }
            tape.clear();
            return accept(became);
        }

        int law() {
            List<Integer> text = tape;
            tape = new ArrayList<>();
            if (laws.size() == 6) {
                return refuse(-5);
            }
            fault = Grammar.fault(text);
            if (fault >= 0) {
                return refuse(-6);
            }
            laws.add(new Tokens(text).words);
            return accept(laws.size() - 1);
        }

        int force(int law) {
            if (!in(law, -1, laws.size() - 1)) {
                return refuse(-2);
            }
            int was = inForce;
            inForce = law;
            return accept(was);
        }

        BigInteger told(String kind, int rock, int to, int night) {
            if (inForce < 0) {
                return null;
            }
            int far = -1;
            if (to >= 0) {
                far = Math.min(Math.floorMod(rock - to, rocks), Math.floorMod(to - rock, rocks));
            }
            int[] values = {rock, to, night, storms[night] ? 1 : 0, mood, far};
            return new Interpreter(laws.get(inForce), values).told(kind);
        }

        static int clamped(BigInteger told) {
            return told == null ? 1 : told.max(BigInteger.ZERO).min(BigInteger.valueOf(99)).intValue();
        }

        boolean wedding(int rock, int night) {
            return weddings.stream().anyMatch(w -> w[0] == rock && in(night, w[1], w[2]));
        }

        boolean sails(int from, int to, int night) {
            if (boats[night][from][to] == null) {
                boats[night][from][to] = night < 59 && from != to && !storms[night] && !wedding(from, night)
                    && told("bars", from, to, night) == null;
            }
            return boats[night][from][to];
        }

        int danger(int rock, int night) {
            if (dangers[night][rock] == null) {
                dangers[night][rock] = clamped(told("danger", rock, -1, night));
            }
            return dangers[night][rock];
        }

        boolean isBoat(int from, int to, int night) {
            return rock(from) && rock(to) && from != to && in(night, 0, 58);
        }

        int goes(int from, int to, int night) {
            return !isBoat(from, to, night) ? -1 : sails(from, to, night) ? 1 : 0;
        }

        int of(int rock, int night, int what) {
            if (!rock(rock) || !in(night, 0, 59) || !in(what, 0, 1)) {
                return -1;
            }
            return what == 0 ? danger(rock, night) : wedding(rock, night) ? 1 : 0;
        }

        int will(int from, int to, int night) {
            return isBoat(from, to, night) ? clamped(told("will", from, to, night)) : -1;
        }

        int oar(int to) {
            int night = trail.size() - 1;
            if (!rock(to)) {
                return refuse(-2);
            } else if (night == 59 || to != trail.get(night) && !sails(trail.get(night), to, night)) {
                return refuse(-3);
            }
            trail.add(to);
            return accept(night + 1);
        }

        int unrow() {
            if (trail.size() == 1) {
                return refuse(-3);
            }
            trail.remove(trail.size() - 1);
            return accept(trail.get(trail.size() - 1));
        }

        int trail(int night) {
            return in(night, 0, trail.size() - 1) ? trail.get(night) : -1;
        }

        int unwarnedOf(List<Integer> way, int a) {
            int all = 0;
            for (int i = 0; i < way.size(); i++) {
                for (int rock = 0; rock < rocks; rock++) {
                    all += rock == way.get(i) ? 0 : danger(rock, a + i);
                }
            }
            return all;
        }

        int unwarned() {
            return unwarnedOf(trail, 0);
        }

        int report(int rock, int night, int red) {
            if (!in(night, 0, 59) || !in(red, 0, 1)) {
                return refuse(-1);
            } else if (!rock(rock)) {
                return refuse(-2);
            } else if (reports.size() == 16) {
                return refuse(-5);
            }
            reports.add(new int[] {rock, night, red});
            return accept(reports.size());
        }

        int burn(int report) {
            if (!in(report, 0, reports.size() - 1)) {
                return refuse(-2);
            }
            reports.remove(report);
            return accept(reports.size());
        }

        Solved solved() {
            if (solved == null) {
                solved = openNights() <= 5 ? Solved.byAllWays(this) : Solved.byCounts(this);
            }
            return solved;
        }

        int could(int night) {
            return !in(night, 0, 59) ? -1 : solved().fewest == 0 ? solved().likely[night] : 0;
        }

        int lies() {
            return solved().fewest;
        }

        long ways() {
            return solved().ways.min(BigInteger.TEN.pow(12)).longValue();
        }

        int likely(int night, int what) {
            if (!in(night, 0, 59) || !in(what, 0, 1)) {
                return -1;
            }
            return what == 0 ? solved().likely[night] : solved().first[night];
        }

        int liars(int what) {
            return what == 0 ? solved().always : what == 1 ? solved().ever : -1;
        }

        /** The NIGHT by which all told ROCKS have had it, from each state; 99 for never. */
        int finish(int rock, int night, int left, byte[][][] known) {
            int still = left & ~(1 << rock);
            if (still == 0) {
                return night;
            }
            if (night == 59) {
                return 99;
            }
            if (known[night][rock][still] != 0) {
                return known[night][rock][still];
            }
            int best = 99;
            for (int to = 0; to < rocks; to++) {
                if (to == rock || sails(rock, to, night)) {
                    best = Math.min(best, finish(to, night + 1, still, known));
                }
            }
            known[night][rock][still] = (byte) best;
            return best;
        }

        int round(int rock, int night, int told, int i) {
            if (!rock(rock) || !in(night, 0, 59) || !in(told, 0, (1 << rocks) - 1) || i < -1) {
                return -1;
            }
            byte[][][] known = new byte[60][9][512];
            int last = finish(rock, night, told, known);
            if (last == 99 || i == -1) {
                return last == 99 ? -1 : last;
            }
            if (i > last - night) {
                return -1;
            }
            int at = rock, left = told & ~(1 << rock);
            for (int n = night; n < night + i; n++) {
                int to = 0;
                while (to != at && !sails(at, to, n) || finish(to, n + 1, left, known) != last) {
                    to++;
                }
                at = to;
                left &= ~(1 << to);
            }
            return at;
        }

        int reach(int from, int night, int to) {
            return rock(to) ? round(from, night, 1 << to, -1) : -1;
        }

        int guard(int rock, int a, int b, int i) {
            if (!rock(rock) || !in(a, 0, 59) || !in(b, 0, 59) || b < a || i < -1 || i > b - a) {
                return -1;
            }
            List<List<Integer>> best = new ArrayList<>();
            for (int r = 0; r < rocks; r++) {
                best.add(List.of(r));
            }
            for (int night = b - 1; night >= a; night--) {
                List<List<Integer>> grown = new ArrayList<>();
                for (int r = 0; r < rocks; r++) {
                    List<Integer> least = null;
                    for (int to = 0; to < rocks; to++) {
                        if (to == r || sails(r, to, night)) {
                            List<Integer> way = new ArrayList<>(List.of(r));
                            way.addAll(best.get(to));
                            if (least == null || unwarnedOf(way, night) < unwarnedOf(least, night)) {
                                least = way;
                            }
                        }
                    }
                    grown.add(least);
                }
                best = grown;
            }
            return i == -1 ? unwarnedOf(best.get(rock), a) : best.get(rock).get(i);
        }

        int sea(int cell, int weight) {
            if (!in(cell, 0, 11) || !in(weight, 0, 99)) {
                return refuse(-1);
            }
            int was = weights[cell];
            weights[cell] = weight;
            return accept(was);
        }

        long search(int n, int what) {
            int whole = Arrays.stream(weights).sum();
            if (!in(n, 0, 6) || !in(what, 0, 2) || whole == 0 || n == 0 && what == 2) {
                return -1;
            }
            int[] looked = new int[12];
            int last = -1;
            BigInteger lower = BigInteger.valueOf(whole).multiply(BigInteger.valueOf(100).pow(n));
            for (int i = 0; i < n; i++) {
                last = 0;
                for (int c = 0; c < 12; c++) {
                    last = left(c, looked[c], n).compareTo(left(last, looked[last], n)) > 0 ? c : last;
                }
                looked[last]++;
            }
            BigInteger missed = BigInteger.ZERO;
            for (int c = 0; c < 12; c++) {
                missed = missed.add(left(c, looked[c], n));
            }
            return what == 0 ? lower.subtract(missed).longValue() : what == 1 ? lower.longValue() : last;
        }

        BigInteger left(int cell, int times, int n) {
            return BigInteger.valueOf(weights[cell]).multiply(BigInteger.valueOf(100 - sure).pow(times))
                .multiply(BigInteger.valueOf(100).pow(n - times));
        }

        int year(int seed, int rock) {
            if (!in(seed, 0, 1_000_000)) {
                return refuse(-1);
            } else if (!rock(rock)) {
                return refuse(-2);
            }
            int[] at = new int[60];
            at[0] = rock;
            long s = seed;
            for (int night = 0; night < 59; night++) {
                List<Integer> slots = new ArrayList<>();
                for (int to = 0; to < rocks; to++) {
                    for (int k = 0; sails(at[night], to, night) && k < will(at[night], to, night); k++) {
                        slots.add(to);
                    }
                }
                for (int k = 0; k < 10; k++) {
                    slots.add(at[night]);
                }
                s = (s * 1103 + 12345) % 1000003;
                at[night + 1] = slots.get((int) (s % slots.size()));
            }
            year = at;
            return accept((int) Arrays.stream(at).distinct().count());
        }

        int drawn(int night) {
            return year == null || !in(night, 0, 59) ? -1 : year[night];
        }

        void take(Model m) {
            rocks = m.rocks;
            mood = m.mood;
            sure = m.sure;
            inForce = m.inForce;
            storms = m.storms.clone();
            weddings = new ArrayList<>(m.weddings);
            reports = new ArrayList<>(m.reports);
            laws = new ArrayList<>(m.laws);
            trail = new ArrayList<>(m.trail);
            weights = m.weights.clone();
        }

        int image(int k) {
            if (!in(k, 0, 1)) {
                return refuse(-1);
            }
            images[k] = new Model();
            images[k].take(this);
            return accept(0);
        }

        int back(int k) {
            if (!in(k, 0, 1)) {
                return refuse(-1);
            } else if (images[k] == null) {
                return refuse(-2);
            }
            take(images[k]);
            return accept(0);
        }

        int count(int what) {
            int stormy = 0;
            for (boolean s : storms) {
                stormy += s ? 1 : 0;
            }
            int[] all = {rocks, stormy, laws.size(), weddings.size(), reports.size(), trail.size() - 1,
                trail.get(trail.size() - 1), tape.size(), refused[1], refused[2], refused[3], refused[5], refused[6],
                inForce, mood, sure};
            return in(what, 0, 15) ? all[what] : -1;
        }
    }

    private static final class Solved {
        int fewest = 99, always, ever;
        BigInteger ways = BigInteger.ZERO;
        int[] likely = new int[60], first;

        static int lie(int[] report, int rock) {
            return (report[0] == rock) == (report[2] == 1) ? 0 : 1;
        }

        /** Walks every WAY there is. */
        static Solved byAllWays(Model m) {
            Solved s = new Solved();
            for (int rock = 0; rock < m.rocks; rock++) {
                int[] way = new int[60];
                way[0] = rock;
                s.walk(m, way, 0);
            }
            return s;
        }

        void walk(Model m, int[] way, int night) {
            if (night == 59) {
                weigh(m, way);
                return;
            }
            for (int to = 0; to < m.rocks; to++) {
                if (to == way[night] || m.sails(way[night], to, night)) {
                    way[night + 1] = to;
                    walk(m, way, night + 1);
                }
            }
        }

        void weigh(Model m, int[] way) {
            int told = 0;
            for (int i = 0; i < m.reports.size(); i++) {
                told |= lie(m.reports.get(i), way[m.reports.get(i)[1]]) << i;
            }
            int lies = Integer.bitCount(told);
            if (lies > fewest) {
                return;
            }
            if (lies < fewest) {
                fewest = lies;
                ways = BigInteger.ZERO;
                always = told;
                ever = 0;
                likely = new int[60];
                first = way.clone();
            }
            ways = ways.add(BigInteger.ONE);
            always &= told;
            ever |= told;
            for (int n = 0; n < 60; n++) {
                likely[n] |= 1 << way[n];
            }
        }

        /** Counts WAYS by NIGHT, ROCK and LIES, from both ends. */
        static Solved byCounts(Model m) {
            BigInteger[][][] till = new BigInteger[60][9][18];
            BigInteger[][][] from = new BigInteger[60][9][18];
            for (int n = 0; n < 60; n++) {
                for (int r = 0; r < 9; r++) {
                    Arrays.fill(till[n][r], BigInteger.ZERO);
                    Arrays.fill(from[n][r], BigInteger.ZERO);
                }
            }
            for (int r = 0; r < m.rocks; r++) {
                till[0][r][liesOf(m, r, 0)] = BigInteger.ONE;
                from[59][r][0] = BigInteger.ONE;
            }
            for (int n = 0; n < 59; n++) {
                for (int r = 0; r < m.rocks; r++) {
                    for (int to = 0; to < m.rocks; to++) {
                        if (r == to || m.sails(r, to, n)) {
                            add(till[n][r], till[n + 1][to], liesOf(m, to, n + 1));
                        }
                        int back = 58 - n;
                        if (r == to || m.sails(r, to, back)) {
                            add(from[back + 1][to], from[back][r], liesOf(m, to, back + 1));
                        }
                    }
                }
            }
            Solved s = new Solved();
            for (int l = 16; l >= 0; l--) {
                BigInteger all = BigInteger.ZERO;
                for (int r = 0; r < m.rocks; r++) {
                    all = all.add(till[59][r][l]);
                }
                if (all.signum() > 0) {
                    s.fewest = l;
                    s.ways = all;
                }
            }
            for (int n = 0; n < 60; n++) {
                for (int r = 0; r < m.rocks; r++) {
                    for (int l = 0; l <= s.fewest; l++) {
                        boolean is = till[n][r][l].signum() > 0 && from[n][r][s.fewest - l].signum() > 0;
                        s.likely[n] |= is ? 1 << r : 0;
                    }
                }
            }
            s.followFirst(m, from);
            s.always = 0;
            for (int i = 0; i < m.reports.size(); i++) {
                int[] report = m.reports.get(i);
                int lying = 0, rocks = 0;
                for (int r = 0; r < m.rocks; r++) {
                    if ((s.likely[report[1]] >> r & 1) == 1) {
                        rocks++;
                        lying += lie(report, r);
                    }
                }
                s.always |= lying == rocks ? 1 << i : 0;
                s.ever |= lying > 0 ? 1 << i : 0;
            }
            return s;
        }

        void followFirst(Model m, BigInteger[][][] from) {
            first = new int[60];
            int left = fewest;
            for (int n = 0; n < 60; n++) {
                for (int r = 0; r < m.rocks; r++) {
                    int after = left - liesOf(m, r, n);
                    boolean can = n == 0 || first[n - 1] == r || m.sails(first[n - 1], r, n - 1);
                    if (can && after >= 0 && from[n][r][after].signum() > 0) {
                        first[n] = r;
                        left = after;
                        break;
                    }
                }
            }
        }

        static int liesOf(Model m, int rock, int night) {
            return m.reports.stream().filter(x -> x[1] == night).mapToInt(x -> lie(x, rock)).sum();
        }

        static void add(BigInteger[] some, BigInteger[] into, int more) {
            for (int l = 0; l + more < 17; l++) {
                into[l + more] = into[l + more].add(some[l]);
            }
        }
    }
}
