import java.util.Arrays;

/** Rocks with lamps that pass one red glass by boat; the words in capitals are those of DOC.md. */
public final class RedGlass {
    public static final int NONE = -1;

    private static final int MOST_ROCKS = 9;
    private static final int NIGHTS = 60;
    private static final int LAST_NIGHT = 59;
    private static final int PLACES = NIGHTS * MOST_ROCKS;
    private static final int MOST_WEDDINGS = 4;
    private static final int MOST_REPORTS = 16;
    private static final int MOST_LAWS = 6;
    private static final int MOST_BYTES = 400;
    private static final int FED = 20;
    private static final int CELLS = 12;
    private static final int MOST_WEIGHT = 99;
    private static final int MOST_LOOKS = 6;
    private static final int MOST_MOOD = 9;
    private static final int HUNDRED = 100;
    private static final int FIRST_SURE = 50;
    private static final int MOST_SEED = 1_000_000;
    private static final int IMAGES = 2;

    private static final int BAD_NUMBER = -1;
    private static final int NO_SUCH = -2;
    private static final int CANNOT_BE = -3;
    private static final int NO_ROOM = -5;
    private static final int BAD_TEXT = -6;

    /** The signs of TOKENS; those up to AND are operations of a LAW's code, too. */
    private static final int NUMBER = 0;
    private static final int ROCK = 1;
    private static final int TO = 2;
    private static final int NIGHT = 3;
    private static final int STORM = 4;
    private static final int MOOD = 5;
    private static final int FAR = 6;
    private static final int PLUS = 7;
    private static final int MINUS = 8;
    private static final int TIMES = 9;
    private static final int OVER = 10;
    private static final int LESS = 11;
    private static final int MORE = 12;
    private static final int SAME = 13;
    private static final int NOT = 14;
    private static final int OR = 15;
    private static final int AND = 16;
    private static final int DANGER = 17;
    private static final int WILL = 18;
    private static final int BARS = 19;
    private static final int IF = 20;
    private static final int SEMICOLON = 21;
    private static final int ROUND_OPEN = 22;
    private static final int ROUND_CLOSE = 23;
    private static final int SQUARE_OPEN = 24;
    private static final int SQUARE_CLOSE = 25;
    private static final int END = 26;
    /** A TOKEN that stands in no rule. */
    private static final int ODD = 27;
    /** TOKENS and code are words with a sign in these bits, a number above them. */
    private static final int SIGN_BITS = 5;
    private static final int SIGN_MASK = 31;

    /** What the IMAGES keep. */
    private final World world;
    private final World[] kept;
    private final Reader reader;
    private final Boats boats;
    private final Sightings sightings;
    private final Rounds rounds;
    private final Guards guards;
    private final Looks looks;
    private final Year latestYear;
    private final int[] refusals;
    private int sprayed;
    private int faultPlace;
    private int refusedBy;
    private boolean isSolved;

    public RedGlass() {
        world = new World();
        kept = new World[IMAGES];
        reader = new Reader();
        boats = new Boats();
        sightings = new Sightings();
        rounds = new Rounds();
        guards = new Guards();
        looks = new Looks();
        latestYear = new Year();
        refusals = new int[5];
        faultPlace = NONE;
    }

    public int terms(int what, int value) {
        int lowest = what == 1 ? 0 : 1;
        if (what < 0 || what > 2 || value < lowest || value > mostOfTerm(what)) {
            return refuse(BAD_NUMBER);
        }
        int was = termNow(what);
        if (what == 0) {
            world.beginAnew(value);
        } else if (what == 1) {
            world.mood = value;
        } else {
            world.sure = value;
        }
        boats.forget(0, LAST_NIGHT);
        return accept(was);
    }

    public int storm(int night, int is) {
        if (!isNight(night) || !isBit(is)) {
            return refuse(BAD_NUMBER);
        }
        int was = world.stormOn(night);
        world.setStorm(night, is == 1);
        boats.forget(night, night);
        return accept(was);
    }

    public int wed(int rock, int from, int till) {
        if (!isNight(from) || !isNight(till) || till < from) {
            return refuse(BAD_NUMBER);
        }
        if (!world.hasRock(rock)) {
            return refuse(NO_SUCH);
        }
        if (world.weddings.isFull()) {
            return refuse(NO_ROOM);
        }
        world.weddings.put(rock, from, till);
        boats.forget(from, till);
        return accept(world.weddings.size - 1);
    }

    public int jilt(int wedding) {
        if (!world.weddings.has(wedding)) {
            return refuse(NO_SUCH);
        }
        boats.forget(world.weddings.second[wedding], world.weddings.third[wedding]);
        world.weddings.drop(wedding);
        return accept(world.weddings.size);
    }

    public int feed(int a, int b, int c, int d, int e) {
        if (reader.size + FED > MOST_BYTES) {
            return NONE;
        }
        reader.putFour(a);
        reader.putFour(b);
        reader.putFour(c);
        reader.putFour(d);
        reader.putFour(e);
        return reader.size;
    }

    public int end(int n) {
        if (n < 0 || n > reader.size) {
            return NONE;
        }
        reader.size = n;
        return n;
    }

    public int row() {
        if (reader.size == 0) {
            return refuse(BAD_TEXT);
        }
        sprayed = 0;
        int became = 0;
        for (int i = 0; i < reader.size; i++) {
            int night = reader.tape[i];
            if (!isNight(night)) {
                sprayed++;
            } else if (world.stormOn(night) == 0) {
                world.setStorm(night, true);
                boats.forget(night, night);
                became++;
            }
        }
        reader.size = 0;
        return accept(became);
    }

    public int spray() {
        return sprayed;
    }

    public int law() {
        if (world.lawCount >= MOST_LAWS) {
            reader.size = 0;
            return refuse(NO_ROOM);
        }
        Law law = reader.readLaw();
        faultPlace = law == null ? reader.faultPlace() : NONE;
        reader.size = 0;
        if (law == null) {
            return refuse(BAD_TEXT);
        }
        world.laws[world.lawCount] = law;
        world.lawCount++;
        return accept(world.lawCount - 1);
    }

    public int fault() {
        return faultPlace;
    }

    public int force(int law) {
        if (law < NONE || law >= world.lawCount) {
            return refuse(NO_SUCH);
        }
        int was = world.inForce;
        world.inForce = law;
        boats.forget(0, LAST_NIGHT);
        return accept(was);
    }

    public int goes(int from, int to, int night) {
        if (!isBoat(from, to, night)) {
            return NONE;
        }
        boats.learnFrom(world, from, night);
        return hasBit(boats.sails(from, night), to) ? 1 : 0;
    }

    public int of(int rock, int night, int what) {
        if (!world.hasRock(rock) || !isNight(night) || !isBit(what)) {
            return NONE;
        }
        if (what == 1) {
            return world.isWeddingOn(rock, night) ? 1 : 0;
        }
        boats.learnDanger(world, rock, night);
        return boats.danger(rock, night);
    }

    public int will(int from, int to, int night) {
        return isBoat(from, to, night) ? boats.willFor(world, from, to, night) : NONE;
    }

    public int oar(int to) {
        if (!world.hasRock(to)) {
            return refuse(NO_SUCH);
        }
        if (world.night >= LAST_NIGHT) {
            return refuse(CANNOT_BE);
        }
        boats.learnFrom(world, world.glassRock(), world.night);
        if (!hasBit(boats.steps(world.glassRock(), world.night), to)) {
            return refuse(CANNOT_BE);
        }
        world.night++;
        world.trail[world.night] = to;
        return accept(world.night);
    }

    public int unrow() {
        if (world.night <= 0) {
            return refuse(CANNOT_BE);
        }
        world.night--;
        return accept(world.glassRock());
    }

    public int trail(int night) {
        return night < 0 || night > world.night ? NONE : world.trail[night];
    }

    public int unwarned() {
        boats.learnDangers(world, 0, world.night);
        int left = 0;
        for (int night = 0; night <= world.night; night++) {
            left += boats.allDanger(world, night) - boats.danger(world.trail[night], night);
        }
        return left;
    }

    public int report(int rock, int night, int red) {
        if (!isNight(night) || !isBit(red)) {
            return refuse(BAD_NUMBER);
        }
        if (!world.hasRock(rock)) {
            return refuse(NO_SUCH);
        }
        if (world.reports.isFull()) {
            return refuse(NO_ROOM);
        }
        world.reports.put(rock, night, red);
        return accept(world.reports.size);
    }

    public int burn(int report) {
        if (!world.reports.has(report)) {
            return refuse(NO_SUCH);
        }
        world.reports.drop(report);
        return accept(world.reports.size);
    }

    public int could(int night) {
        if (!isNight(night)) {
            return NONE;
        }
        solveSightings();
        return sightings.fewest == 0 ? sightings.likelyRocks[night] : 0;
    }

    public int lies() {
        solveSightings();
        return sightings.fewest;
    }

    public long ways() {
        solveSightings();
        return sightings.number;
    }

    public int likely(int night, int what) {
        if (!isNight(night) || !isBit(what)) {
            return NONE;
        }
        solveSightings();
        return what == 0 ? sightings.likelyRocks[night] : sightings.firstWay[night];
    }

    public int liars(int what) {
        if (!isBit(what)) {
            return NONE;
        }
        solveSightings();
        return sightings.lyingReports(world, what == 0);
    }

    public int round(int rock, int night, int rocks, int i) {
        if (!world.hasRock(rock) || !isNight(night) || i < NONE) {
            return NONE;
        }
        if (rocks < 0 || rocks >= 1 << world.rocks) {
            return NONE;
        }
        boats.learnAll(world, night, LAST_NIGHT);
        int last = rounds.earliest(boats, rock, night, rocks);
        if (last == NONE || i == NONE) {
            return last;
        }
        if (i > last - night) {
            return NONE;
        }
        return rounds.rockOfWay(boats, rock, night, last, rocks, i);
    }

    public int reach(int from, int night, int to) {
        if (!world.hasRock(from) || !isNight(night) || !world.hasRock(to)) {
            return NONE;
        }
        boats.learnAll(world, night, LAST_NIGHT);
        int rocks = 1 << from;
        for (int now = night; now < LAST_NIGHT; now++) {
            if (hasBit(rocks, to)) {
                return now;
            }
            rocks = boats.stepsOfAll(rocks, now);
        }
        return hasBit(rocks, to) ? LAST_NIGHT : NONE;
    }

    public int guard(int rock, int a, int b, int i) {
        if (!world.hasRock(rock) || !isNight(a) || !isNight(b) || b < a) {
            return NONE;
        }
        if (i < NONE || i > b - a) {
            return NONE;
        }
        boats.learnAll(world, a, b);
        boats.learnDangers(world, a, b);
        guards.weigh(world, boats, a, b);
        return i == NONE ? guards.leastUnwarned(world, boats, rock, a, b)
            : guards.rockOfWay(boats, rock, a, i);
    }

    public int sea(int cell, int weight) {
        if (cell < 0 || cell >= CELLS || weight < 0 || weight > MOST_WEIGHT) {
            return refuse(BAD_NUMBER);
        }
        int was = world.weights[cell];
        world.weights[cell] = weight;
        return accept(was);
    }

    public long search(int n, int what) {
        if (n < 0 || n > MOST_LOOKS || what < 0 || what > 2) {
            return NONE;
        }
        looks.lookTimes(world, n);
        if (looks.whole == 0) {
            return NONE;
        }
        if (what == 0) {
            return looks.found;
        }
        return what == 1 ? looks.whole : looks.lastCell;
    }

    public int year(int seed, int rock) {
        if (seed < 0 || seed > MOST_SEED) {
            return refuse(BAD_NUMBER);
        }
        if (!world.hasRock(rock)) {
            return refuse(NO_SUCH);
        }
        latestYear.pass(world, boats, seed, rock);
        return accept(latestYear.rocksHad());
    }

    public int drawn(int night) {
        return latestYear.isDrawn && isNight(night) ? latestYear.rockOf[night] : NONE;
    }

    public int image(int k) {
        if (k < 0 || k >= IMAGES) {
            return refuse(BAD_NUMBER);
        }
        World image = kept[k];
        if (image == null) {
            image = new World();
            kept[k] = image;
        }
        image.become(world);
        return accept(0);
    }

    public int back(int k) {
        if (k < 0 || k >= IMAGES) {
            return refuse(BAD_NUMBER);
        }
        World image = kept[k];
        if (image == null) {
            return refuse(NO_SUCH);
        }
        world.become(image);
        boats.forget(0, LAST_NIGHT);
        return accept(0);
    }

    public int count(int what) {
        switch (what) {
            case 0: return world.rocks;
            case 1: return Long.bitCount(world.storms);
            case 2: return world.lawCount;
            case 3: return world.weddings.size;
            case 4: return world.reports.size;
            case 5: return world.night;
            case 6: return world.glassRock();
            case 7: return reader.size;
            case 8: case 9: case 10: case 11: case 12: return refusals[what - 8];
            case 13: return world.inForce;
            case 14: return world.mood;
            case 15: return world.sure;
            default: return NONE;
        }
    }

    public int status() {
        return refusedBy;
    }

    private int refuse(int why) {
        refusedBy = why;
        switch (why) {
            case BAD_NUMBER: refusals[0]++; break;
            case NO_SUCH: refusals[1]++; break;
            case CANNOT_BE: refusals[2]++; break;
            case NO_ROOM: refusals[3]++; break;
            default: refusals[4]++; break;
        }
        return why;
    }

    /** Nothing changes but by calls that come here, so what was solved stands till then. */
    private int accept(int answer) {
        refusedBy = 0;
        isSolved = false;
        return answer;
    }

    private void solveSightings() {
        if (!isSolved) {
            boats.learnAll(world, 0, LAST_NIGHT);
            sightings.solve(world, boats);
            isSolved = true;
        }
    }

    private boolean isBoat(int from, int to, int night) {
        return world.hasRock(from) && world.hasRock(to) && from != to
            && night >= 0 && night < LAST_NIGHT;
    }

    private int termNow(int what) {
        if (what == 0) {
            return world.rocks;
        }
        return what == 1 ? world.mood : world.sure;
    }

    private static int mostOfTerm(int what) {
        if (what == 0) {
            return MOST_ROCKS;
        }
        return what == 1 ? MOST_MOOD : HUNDRED;
    }

    private static boolean isNight(int night) {
        return night >= 0 && night < NIGHTS;
    }

    private static boolean isBit(int number) {
        return number == 0 || number == 1;
    }

    private static boolean hasBit(int bits, int bit) {
        return (bits >> bit & 1) == 1;
    }

    /** Where a ROCK in a NIGHT stands in a row of PLACES. */
    private static int placeOf(int rock, int night) {
        return night * MOST_ROCKS + rock;
    }

    /** Numbered threes of numbers, as WEDDINGS and REPORTS are: those behind one that goes move up. */
    private static final class Threes {
        final int[] first;
        final int[] second;
        final int[] third;
        int size;

        Threes(int most) {
            first = new int[most];
            second = new int[most];
            third = new int[most];
        }

        boolean isFull() {
            return size >= first.length;
        }

        boolean has(int number) {
            return number >= 0 && number < size;
        }

        void put(int a, int b, int c) {
            if (isFull()) {
                return;
            }
            first[size] = a;
            second[size] = b;
            third[size] = c;
            size++;
        }

        void drop(int number) {
            if (!has(number)) {
                return;
            }
            for (int i = number; i + 1 < size; i++) {
                first[i] = first[i + 1];
                second[i] = second[i + 1];
                third[i] = third[i + 1];
            }
            size--;
        }

        void become(Threes other) {
            size = 0;
            for (int i = 0; i < other.size; i++) {
                put(other.first[i], other.second[i], other.third[i]);
            }
        }
    }

    /** A TEXT that was read: by CLAUSE its kind, code for its SUM from starts on, for its TEST from tests to ends. */
    private static final class Law {
        final int size;
        final int[] kinds;
        final int[] starts;
        final int[] tests;
        final int[] ends;
        final int[] code;

        Law(Reader reader) {
            size = reader.clauses;
            kinds = Arrays.copyOf(reader.kinds, size);
            starts = Arrays.copyOf(reader.starts, size);
            tests = Arrays.copyOf(reader.tests, size);
            ends = Arrays.copyOf(reader.ends, size);
            code = Arrays.copyOf(reader.code, reader.codeSize);
        }
    }

    /** All that an IMAGE keeps. */
    private static final class World {
        int rocks = MOST_ROCKS;
        int mood;
        int sure = FIRST_SURE;
        /** A bit a NIGHT. */
        long storms;
        final Threes weddings = new Threes(MOST_WEDDINGS);
        final Threes reports = new Threes(MOST_REPORTS);
        /** A LAW never changes once it is read, so IMAGES may share it. */
        final Law[] laws = new Law[MOST_LAWS];
        int lawCount;
        int inForce = NONE;
        final int[] trail = new int[NIGHTS];
        int night;
        final int[] weights = new int[CELLS];

        boolean hasRock(int rock) {
            return rock >= 0 && rock < rocks;
        }

        int glassRock() {
            return trail[night];
        }

        int stormOn(int aNight) {
            return (int) (storms >> aNight & 1);
        }

        void setStorm(int aNight, boolean is) {
            long bit = 1L << aNight;
            storms = is ? storms | bit : storms & ~bit;
        }

        boolean isWeddingOn(int rock, int aNight) {
            for (int i = 0; i < weddings.size; i++) {
                if (weddings.first[i] == rock && weddings.second[i] <= aNight
                    && aNight <= weddings.third[i]) {
                    return true;
                }
            }
            return false;
        }

        /** The LAW in FORCE, or null. */
        Law ruling() {
            return inForce < 0 || inForce >= lawCount ? null : laws[inForce];
        }

        void beginAnew(int newRocks) {
            rocks = newRocks;
            weddings.size = 0;
            reports.size = 0;
            night = 0;
            trail[0] = 0;
        }

        void become(World other) {
            rocks = other.rocks;
            mood = other.mood;
            sure = other.sure;
            storms = other.storms;
            weddings.become(other.weddings);
            reports.become(other.reports);
            for (int i = 0; i < MOST_LAWS; i++) {
                laws[i] = other.laws[i];
            }
            lawCount = other.lawCount;
            inForce = other.inForce;
            System.arraycopy(other.trail, 0, trail, 0, NIGHTS);
            night = other.night;
            System.arraycopy(other.weights, 0, weights, 0, CELLS);
        }
    }

    /** The TAPE, read as a LAW into code for a pile. Nothing goes past a TOKEN that can't go on: there is the FAULT. */
    private static final class Reader {
        private static final int BLANK = 32;
        private static final int MOST_CLAUSES = 12;
        private static final int MOST_PARTS = 50;
        private static final int MOST_BRACKETS = 8;
        private static final int MOST_NUMBER = 1000;

        final int[] tape = new int[MOST_BYTES];
        int size;
        final int[] kinds = new int[MOST_CLAUSES];
        final int[] starts = new int[MOST_CLAUSES];
        final int[] tests = new int[MOST_CLAUSES];
        final int[] ends = new int[MOST_CLAUSES];
        final int[] code = new int[MOST_BYTES];
        int clauses;
        int codeSize;
        /** The TOKENS, the end as the last one, and where each begins. */
        private final int[] tokens = new int[MOST_BYTES + 1];
        private final int[] places = new int[MOST_BYTES + 1];
        /** Which TOKEN is next, and its sign. */
        private int at;
        private int sign;
        private int parts;

        void putFour(int four) {
            for (int shift = 24; shift >= 0 && size < MOST_BYTES; shift -= 8) {
                tape[size] = four >> shift & 255;
                size++;
            }
        }

        /** The LAW, or null: then faultPlace() tells where. */
        Law readLaw() {
            clauses = 0;
            codeSize = 0;
            parts = 0;
            cutTokens();
            goTo(0);
            boolean good = readClause();
            for (int i = 0; i < MOST_BYTES && good && pass(SEMICOLON); i++) {
                good = readClause();
            }
            return good && sign == END ? new Law(this) : null;
        }

        int faultPlace() {
            return places[at];
        }

        private boolean readClause() {
            int kind = sign;
            if (clauses >= MOST_CLAUSES || kind < DANGER || kind > BARS) {
                return false;
            }
            goTo(at + 1);
            kinds[clauses] = kind;
            starts[clauses] = codeSize;
            if (kind != BARS && !readSum(0)) {
                return false;
            }
            tests[clauses] = codeSize;
            if (pass(IF) && !readTest(0)) {
                return false;
            }
            ends[clauses] = codeSize;
            clauses++;
            return true;
        }

        private boolean readTest(int depth) {
            boolean good = readBoth(depth);
            for (int i = 0; i < MOST_BYTES && good && pass(OR); i++) {
                int jump = emit(OR);
                good = readBoth(depth);
                landHere(jump);
            }
            return good;
        }

        private boolean readBoth(int depth) {
            boolean good = readPlain(depth);
            for (int i = 0; i < MOST_BYTES && good && pass(AND); i++) {
                int jump = emit(AND);
                good = readPlain(depth);
                landHere(jump);
            }
            return good;
        }

        /** "not" is counted, not gone into: a TEXT has room for a hundred of them. */
        private boolean readPlain(int depth) {
            boolean turned = false;
            for (int i = 0; i < MOST_BYTES && pass(NOT); i++) {
                turned = !turned;
            }
            boolean good = sign == ROUND_OPEN ? readRoundBracket(depth) : readComparison(depth);
            if (good && turned) {
                emit(NOT);
            }
            return good;
        }

        private boolean readRoundBracket(int depth) {
            return depth < MOST_BRACKETS && pass(ROUND_OPEN)
                && readTest(depth + 1) && pass(ROUND_CLOSE);
        }

        private boolean readComparison(int depth) {
            if (!readSum(depth)) {
                return false;
            }
            int comparison = sign;
            if (comparison < LESS || comparison > SAME) {
                return false;
            }
            goTo(at + 1);
            boolean good = readSum(depth);
            emit(comparison);
            return good;
        }

        private boolean readSum(int depth) {
            boolean good = readTerm(depth);
            for (int i = 0; i < MOST_BYTES && good && (sign == PLUS || sign == MINUS); i++) {
                int operation = sign;
                goTo(at + 1);
                good = readTerm(depth);
                emit(operation);
            }
            return good;
        }

        private boolean readTerm(int depth) {
            boolean good = readPart(depth);
            for (int i = 0; i < MOST_BYTES && good && (sign == TIMES || sign == OVER); i++) {
                int operation = sign;
                goTo(at + 1);
                good = readPart(depth);
                emit(operation);
            }
            return good;
        }

        private boolean readPart(int depth) {
            if (sign == SQUARE_OPEN) {
                return depth < MOST_BRACKETS && pass(SQUARE_OPEN)
                    && readSum(depth + 1) && pass(SQUARE_CLOSE);
            }
            if (sign < NUMBER || sign > FAR || parts >= MOST_PARTS) {
                return false;
            }
            parts++;
            emit(tokens[at]);
            goTo(at + 1);
            return true;
        }

        /** Goes on behind the TOKEN if it is that one. */
        private boolean pass(int wanted) {
            if (sign != wanted) {
                return false;
            }
            goTo(at + 1);
            return true;
        }

        private void goTo(int token) {
            if (token >= 0 && token <= MOST_BYTES) {
                at = token;
                sign = tokens[token] & SIGN_MASK;
            }
        }

        /** Where in the code the word was put. */
        private int emit(int word) {
            if (codeSize < code.length) {
                code[codeSize] = word;
                codeSize++;
            }
            return codeSize - 1;
        }

        /** "or", "and" jump to where the code goes on behind what they may leave out. */
        private void landHere(int jump) {
            if (jump >= 0 && jump < codeSize) {
                code[jump] |= codeSize << SIGN_BITS;
            }
        }

        private void cutTokens() {
            int count = 0;
            int till = 0;
            for (int from = 0; from < size && count < MOST_BYTES; from = Math.max(from + 1, till)) {
                till = endOfToken(from);
                if (tape[from] != BLANK) {
                    tokens[count] = tokenOf(from, till);
                    places[count] = from;
                    count++;
                }
            }
            tokens[count] = END;
            places[count] = size;
        }

        private int endOfToken(int from) {
            int till = from + 1;
            boolean isRow = isLetter(tape[from]) || isDigit(tape[from]);
            while (isRow && till < size && isDigit(tape[from]) == isDigit(tape[till])
                && isLetter(tape[from]) == isLetter(tape[till])) {
                till++;
            }
            return till;
        }

        private int tokenOf(int from, int till) {
            if (isLetter(tape[from])) {
                return signOfWord(from, till);
            }
            return isDigit(tape[from]) ? numberToken(from, till) : signOfMark(tape[from]);
        }

        private int numberToken(int from, int till) {
            int number = 0;
            for (int i = from; i < till && number <= MOST_NUMBER; i++) {
                number = number * 10 + tape[i] - '0';
            }
            return number <= MOST_NUMBER ? number << SIGN_BITS | NUMBER : ODD;
        }

        private int signOfWord(int from, int till) {
            if (isWord("danger", from, till)) {
                return DANGER;
            } else if (isWord("will", from, till)) {
                return WILL;
            } else if (isWord("bars", from, till)) {
                return BARS;
            } else if (isWord("if", from, till)) {
                return IF;
            } else if (isWord("or", from, till)) {
                return OR;
            } else if (isWord("and", from, till)) {
                return AND;
            } else if (isWord("not", from, till)) {
                return NOT;
            }
            return signOfPart(from, till);
        }

        private int signOfPart(int from, int till) {
            if (isWord("rock", from, till)) {
                return ROCK;
            } else if (isWord("to", from, till)) {
                return TO;
            } else if (isWord("night", from, till)) {
                return NIGHT;
            } else if (isWord("storm", from, till)) {
                return STORM;
            } else if (isWord("mood", from, till)) {
                return MOOD;
            }
            return isWord("far", from, till) ? FAR : ODD;
        }

        private boolean isWord(String word, int from, int till) {
            if (from < 0 || till > size || till - from != word.length()) {
                return false;
            }
            for (int i = 0; i < word.length(); i++) {
                if (tape[from + i] != word.charAt(i)) {
                    return false;
                }
            }
            return true;
        }

        private static boolean isLetter(int sign) {
            return sign >= 'a' && sign <= 'z';
        }

        private static boolean isDigit(int sign) {
            return sign >= '0' && sign <= '9';
        }

        private static int signOfMark(int mark) {
            switch (mark) {
                case '+': return PLUS;
                case '-': return MINUS;
                case '*': return TIMES;
                case '/': return OVER;
                case '<': return LESS;
                case '>': return MORE;
                case '=': return SAME;
                case ';': return SEMICOLON;
                case '(': return ROUND_OPEN;
                case ')': return ROUND_CLOSE;
                case '[': return SQUARE_OPEN;
                case ']': return SQUARE_CLOSE;
                default: return ODD;
            }
        }
    }

    /** Asks a LAW of a ROCK, or of a boat, in a NIGHT. */
    private static final class Asker {
        private static final long FARTHEST = 1_000_000_000L;
        private static final long BROKEN = FARTHEST + 1;
        private static final int UNTOLD = 1;
        private static final int MOST_TOLD = 99;
        /** Eight brackets, each with the left of a "+" and of a "*" waiting, need no more. */
        private static final int PILE = 32;

        private final int[] words = new int[FAR + 1];
        private final long[] pile = new long[PILE];
        private int top;

        void aboutRock(World world, int rock, int night) {
            words[ROCK] = rock;
            words[NIGHT] = night;
            words[STORM] = world.stormOn(night);
            words[MOOD] = world.mood;
            words[TO] = NONE;
            words[FAR] = NONE;
        }

        void aboutBoat(World world, int from, int to, int night) {
            aboutRock(world, from, night);
            int across = Math.abs(from - to);
            words[TO] = to;
            words[FAR] = Math.min(across, world.rocks - across);
        }

        /** What the last CLAUSE of a kind that HOLDS tells. */
        int told(Law law, int kind) {
            if (law == null) {
                return UNTOLD;
            }
            for (int i = law.size - 1; i >= 0; i--) {
                if (law.kinds[i] == kind && work(law.code, law.tests[i], law.ends[i]) == 1) {
                    long sum = work(law.code, law.starts[i], law.tests[i]);
                    if (sum != BROKEN) {
                        return (int) Math.max(0L, Math.min((long) MOST_TOLD, sum));
                    }
                }
            }
            return UNTOLD;
        }

        boolean isBarred(Law law) {
            if (law == null) {
                return false;
            }
            for (int i = 0; i < law.size; i++) {
                if (law.kinds[i] == BARS && work(law.code, law.tests[i], law.ends[i]) == 1) {
                    return true;
                }
            }
            return false;
        }

        /** What a SUM tells; 1 or 0 for a TEST, 1 without code; BROKEN: that breaks all around it, so the work ends. */
        private long work(int[] code, int from, int till) {
            top = 1;
            pile[0] = 1;
            for (int at = Math.max(0, from); at < till && at < code.length; at++) {
                int operation = code[at] & SIGN_MASK;
                int with = code[at] >>> SIGN_BITS;
                if (operation <= FAR) {
                    push(operation == NUMBER ? with : words[operation]);
                } else if (operation == OR || operation == AND) {
                    boolean isSettled = pile[top - 1] == (operation == OR ? 1 : 0);
                    at = isSettled ? Math.max(at, with - 1) : at;
                    top = isSettled || top <= 1 ? top : top - 1;
                } else if (operation == NOT) {
                    pile[top - 1] = 1 - pile[top - 1];
                } else if (!combine(operation)) {
                    return BROKEN;
                }
            }
            return pile[top - 1];
        }

        private void push(long value) {
            if (top < pile.length) {
                pile[top] = value;
                top++;
            }
        }

        /** Whether what the two uppermost become is not BROKEN. */
        private boolean combine(int operation) {
            if (top < 2) {
                return false;
            }
            top--;
            long left = pile[top - 1];
            long right = pile[top];
            if (operation == OVER && right == 0) {
                return false;
            }
            long value;
            switch (operation) {
                case PLUS: value = left + right; break;
                case MINUS: value = left - right; break;
                case TIMES: value = left * right; break;
                case OVER: value = right == 0 ? 0 : left / right; break;
                case LESS: value = left < right ? 1 : 0; break;
                case MORE: value = left > right ? 1 : 0; break;
                default: value = left == right ? 1 : 0; break;
            }
            pile[top - 1] = value;
            return value <= FARTHEST && value >= -FARTHEST;
        }
    }

    /** Which boats GO and what DANGER there is: worked out where it is asked for, known till something changes it. */
    private static final class Boats {
        private static final int UNKNOWN = -1;

        private final Asker asker = new Asker();
        private final int[] sailing = new int[PLACES];
        private final int[] dangers = new int[PLACES];

        Boats() {
            Arrays.fill(sailing, UNKNOWN);
            Arrays.fill(dangers, UNKNOWN);
        }

        void forget(int first, int last) {
            for (int night = Math.max(0, first); night <= last && night < NIGHTS; night++) {
                for (int rock = 0; rock < MOST_ROCKS; rock++) {
                    sailing[placeOf(rock, night)] = UNKNOWN;
                    dangers[placeOf(rock, night)] = UNKNOWN;
                }
            }
        }

        void learnAll(World world, int first, int last) {
            for (int night = Math.max(0, first); night <= last && night < NIGHTS; night++) {
                for (int rock = 0; rock < MOST_ROCKS; rock++) {
                    learnFrom(world, rock, night);
                }
            }
        }

        void learnFrom(World world, int from, int night) {
            if (sailing[placeOf(from, night)] != UNKNOWN) {
                return;
            }
            Law law = world.ruling();
            boolean isAshore = !world.hasRock(from) || night >= LAST_NIGHT
                || world.stormOn(night) == 1 || world.isWeddingOn(from, night);
            int rocks = 0;
            for (int to = 0; to < world.rocks && !isAshore; to++) {
                asker.aboutBoat(world, from, to, night);
                if (to != from && !asker.isBarred(law)) {
                    rocks |= 1 << to;
                }
            }
            sailing[placeOf(from, night)] = rocks;
        }

        void learnDangers(World world, int first, int last) {
            for (int night = Math.max(0, first); night <= last && night < NIGHTS; night++) {
                for (int rock = 0; rock < world.rocks; rock++) {
                    learnDanger(world, rock, night);
                }
            }
        }

        void learnDanger(World world, int rock, int night) {
            if (dangers[placeOf(rock, night)] == UNKNOWN) {
                asker.aboutRock(world, rock, night);
                dangers[placeOf(rock, night)] = asker.told(world.ruling(), DANGER);
            }
        }

        /** The ROCKS to which a boat GOES, as bits. */
        int sails(int from, int night) {
            return sailing[placeOf(from, night)];
        }

        /** The ROCKS that can come next on a WAY, as bits. */
        int steps(int from, int night) {
            return sailing[placeOf(from, night)] | 1 << from;
        }

        int stepsOfAll(int rocks, int night) {
            int next = 0;
            for (int rock = 0; rock < MOST_ROCKS; rock++) {
                if (hasBit(rocks, rock)) {
                    next |= steps(rock, night);
                }
            }
            return next;
        }

        int danger(int rock, int night) {
            return dangers[placeOf(rock, night)];
        }

        int allDanger(World world, int night) {
            int all = 0;
            for (int rock = 0; rock < world.rocks; rock++) {
                all += danger(rock, night);
            }
            return all;
        }

        int willFor(World world, int from, int to, int night) {
            asker.aboutBoat(world, from, to, night);
            return asker.told(world.ruling(), WILL);
        }
    }

    /** The WAYS of the FEWEST LIES. */
    private static final class Sightings {
        private static final long MOST_WAYS = 1_000_000_000_000L;

        /** By place: LIES of that NIGHT alone; the fewest from it on; in how many WAYS. */
        private final int[] lying = new int[PLACES];
        private final int[] least = new int[PLACES];
        private final long[] tally = new long[PLACES];
        final int[] likelyRocks = new int[NIGHTS];
        final int[] firstWay = new int[NIGHTS];
        int fewest;
        long number;

        void solve(World world, Boats boats) {
            countLying(world);
            for (int rock = 0; rock < world.rocks; rock++) {
                least[placeOf(rock, LAST_NIGHT)] = lying[placeOf(rock, LAST_NIGHT)];
                tally[placeOf(rock, LAST_NIGHT)] = 1;
            }
            for (int night = LAST_NIGHT - 1; night >= 0; night--) {
                for (int rock = 0; rock < world.rocks; rock++) {
                    weigh(rock, night, boats.steps(rock, night));
                }
            }
            chooseStart(world);
            followLikely(boats);
            followFirst(boats);
        }

        private void countLying(World world) {
            Arrays.fill(lying, 0);
            for (int i = 0; i < world.reports.size; i++) {
                for (int rock = 0; rock < world.rocks; rock++) {
                    boolean isThere = rock == world.reports.first[i];
                    if (isThere != (world.reports.third[i] == 1)) {
                        lying[placeOf(rock, world.reports.second[i])]++;
                    }
                }
            }
        }

        private void weigh(int rock, int night, int steps) {
            int fewestBehind = MOST_REPORTS + 1;
            long waysBehind = 0;
            for (int to = 0; to < MOST_ROCKS; to++) {
                int place = placeOf(to, night + 1);
                if (hasBit(steps, to) && least[place] <= fewestBehind) {
                    waysBehind = least[place] < fewestBehind ? tally[place] : waysBehind + tally[place];
                    fewestBehind = least[place];
                }
            }
            least[placeOf(rock, night)] = lying[placeOf(rock, night)] + fewestBehind;
            tally[placeOf(rock, night)] = Math.min(MOST_WAYS, waysBehind);
        }

        private void chooseStart(World world) {
            fewest = MOST_REPORTS + 1;
            for (int rock = 0; rock < world.rocks; rock++) {
                fewest = Math.min(fewest, least[placeOf(rock, 0)]);
            }
            number = 0;
            likelyRocks[0] = 0;
            for (int rock = 0; rock < world.rocks; rock++) {
                if (least[placeOf(rock, 0)] == fewest) {
                    likelyRocks[0] |= 1 << rock;
                    number = Math.min(MOST_WAYS, number + tally[placeOf(rock, 0)]);
                }
            }
        }

        private void followLikely(Boats boats) {
            for (int night = 0; night < LAST_NIGHT; night++) {
                int next = 0;
                for (int rock = 0; rock < MOST_ROCKS; rock++) {
                    if (hasBit(likelyRocks[night], rock)) {
                        next |= bestSteps(boats, rock, night);
                    }
                }
                likelyRocks[night + 1] = next;
            }
        }

        private void followFirst(Boats boats) {
            firstWay[0] = lowestOf(likelyRocks[0]);
            for (int night = 0; night < LAST_NIGHT; night++) {
                firstWay[night + 1] = lowestOf(bestSteps(boats, firstWay[night], night));
            }
        }

        /** The steps by which the fewest LIES from here on stay the fewest, as bits. */
        private int bestSteps(Boats boats, int rock, int night) {
            int steps = boats.steps(rock, night);
            int behind = least[placeOf(rock, night)] - lying[placeOf(rock, night)];
            int best = 0;
            for (int to = 0; to < MOST_ROCKS; to++) {
                if (hasBit(steps, to) && least[placeOf(to, night + 1)] == behind) {
                    best |= 1 << to;
                }
            }
            return best;
        }

        private static int lowestOf(int rocks) {
            for (int rock = 0; rock < MOST_ROCKS; rock++) {
                if (hasBit(rocks, rock)) {
                    return rock;
                }
            }
            return 0;
        }

        /** REPORTS that are LIES in all of these WAYS, or else in some, as bits. */
        int lyingReports(World world, boolean inAll) {
            int bits = 0;
            for (int i = 0; i < world.reports.size; i++) {
                int there = 1 << world.reports.first[i];
                int likelyThen = likelyRocks[world.reports.second[i]];
                int whereLie = world.reports.third[i] == 1 ? likelyThen & ~there : likelyThen & there;
                if (inAll ? whereLie == likelyThen : whereLie != 0) {
                    bits |= 1 << i;
                }
            }
            return bits;
        }
    }

    /** ROUNDS: by NIGHT and ROCK the sets of told ROCKS that had the GLASS, a bit for each of the 512 there can be. */
    private static final class Rounds {
        private static final int WORDS = 8;
        private static final int WORD_ROCKS = 6;
        private static final int LAYER = MOST_ROCKS * WORDS;
        /** By ROCK: the sets within one word that are without it. */
        private static final long[] WITHOUT = {
            0x5555555555555555L, 0x3333333333333333L, 0x0F0F0F0F0F0F0F0FL,
            0x00FF00FF00FF00FFL, 0x0000FFFF0000FFFFL, 0x00000000FFFFFFFFL};

        /** A layer a NIGHT: which sets can have come so far; later, from which the ROUND can be ended in time. */
        private final long[] layers = new long[NIGHTS * LAYER];
        private int told;

        /** The NIGHT of the ROUND, or NONE. */
        int earliest(Boats boats, int rock, int night, int rocks) {
            told = rocks;
            Arrays.fill(layers, 0);
            put(rock, night, rocks & 1 << rock);
            for (int now = night; now < NIGHTS; now++) {
                if (isEndedIn(now)) {
                    return now;
                }
                if (now < LAST_NIGHT) {
                    spread(boats, now);
                }
            }
            return NONE;
        }

        private boolean isEndedIn(int night) {
            for (int rock = 0; rock < MOST_ROCKS; rock++) {
                if (isIn(rock, night, told)) {
                    return true;
                }
            }
            return false;
        }

        private void spread(Boats boats, int night) {
            for (int rock = 0; rock < MOST_ROCKS; rock++) {
                int steps = boats.steps(rock, night);
                for (int to = 0; to < MOST_ROCKS; to++) {
                    if (hasBit(steps, to)) {
                        carry(wordOf(rock, night, 0), wordOf(to, night + 1, 0), to);
                    }
                }
            }
        }

        /** The sets of one row go into another one, with a ROCK in each of them if it is told. */
        private void carry(int from, int into, int rock) {
            boolean isTold = hasBit(told, rock);
            for (int i = 0; i < WORDS; i++) {
                long sets = layers[from + i];
                if (!isTold || sets == 0) {
                    layers[into + i] |= sets;
                } else if (rock < WORD_ROCKS) {
                    layers[into + i] |= sets & ~WITHOUT[rock] | (sets & WITHOUT[rock]) << (1 << rock);
                } else {
                    layers[into + (i | 1 << rock - WORD_ROCKS)] |= sets;
                }
            }
        }

        /** Where the GLASS is in the i-th NIGHT of the first WAY that ends in the last NIGHT. */
        int rockOfWay(Boats boats, int rock, int night, int last, int rocks, int i) {
            told = rocks;
            lookBack(boats, night, last);
            int at = rock;
            int had = told & 1 << rock;
            for (int now = night; now < night + i && now < last; now++) {
                at = firstStep(boats.steps(at, now), now, had, at);
                had |= told & 1 << at;
            }
            return at;
        }

        private int firstStep(int steps, int night, int had, int stay) {
            for (int to = 0; to < MOST_ROCKS; to++) {
                if (hasBit(steps, to) && isIn(to, night + 1, had | told & 1 << to)) {
                    return to;
                }
            }
            return stay;
        }

        private void lookBack(Boats boats, int night, int last) {
            Arrays.fill(layers, 0);
            for (int rock = 0; rock < MOST_ROCKS; rock++) {
                put(rock, last, told);
            }
            for (int now = last - 1; now >= night; now--) {
                for (int rock = 0; rock < MOST_ROCKS; rock++) {
                    int steps = boats.steps(rock, now);
                    for (int to = 0; to < MOST_ROCKS; to++) {
                        if (hasBit(steps, to)) {
                            fetch(wordOf(to, now + 1, 0), wordOf(rock, now, 0), to);
                        }
                    }
                }
            }
        }

        /** The other way round than carry: from which sets one comes to those of a row with a ROCK more. */
        private void fetch(int from, int into, int rock) {
            boolean isTold = hasBit(told, rock);
            for (int i = 0; i < WORDS; i++) {
                long sets = layers[from + i];
                if (!isTold || sets == 0) {
                    layers[into + i] |= sets;
                } else if (rock < WORD_ROCKS) {
                    long with = sets & ~WITHOUT[rock];
                    layers[into + i] |= with | with >>> (1 << rock);
                } else if (hasBit(i, rock - WORD_ROCKS)) {
                    layers[into + i] |= sets;
                    layers[into + (i ^ 1 << rock - WORD_ROCKS)] |= sets;
                }
            }
        }

        private void put(int rock, int night, int set) {
            layers[wordOf(rock, night, set)] |= 1L << (set & 63);
        }

        private boolean isIn(int rock, int night, int set) {
            return (layers[wordOf(rock, night, set)] >>> (set & 63) & 1) == 1;
        }

        private static int wordOf(int rock, int night, int set) {
            return night * LAYER + rock * WORDS + (set >> WORD_ROCKS & WORDS - 1);
        }
    }

    /** GUARDS: what can be warned of at most, told from the last NIGHT back. */
    private static final class Guards {
        private final int[] warned = new int[PLACES];

        void weigh(World world, Boats boats, int a, int b) {
            for (int night = b; night >= a; night--) {
                for (int rock = 0; rock < world.rocks; rock++) {
                    int behind = night < b ? mostBehind(boats, rock, night) : 0;
                    warned[placeOf(rock, night)] = boats.danger(rock, night) + behind;
                }
            }
        }

        private int mostBehind(Boats boats, int rock, int night) {
            return warned[placeOf(bestStep(boats, rock, night), night + 1)];
        }

        private int bestStep(Boats boats, int rock, int night) {
            int steps = boats.steps(rock, night);
            int best = NONE;
            for (int to = 0; to < MOST_ROCKS; to++) {
                if (hasBit(steps, to)
                    && (best == NONE || warned[placeOf(to, night + 1)] > warned[placeOf(best, night + 1)])) {
                    best = to;
                }
            }
            return best == NONE ? rock : best;
        }

        int leastUnwarned(World world, Boats boats, int rock, int a, int b) {
            int all = 0;
            for (int night = a; night <= b; night++) {
                all += boats.allDanger(world, night);
            }
            return all - warned[placeOf(rock, a)];
        }

        int rockOfWay(Boats boats, int rock, int a, int i) {
            int at = rock;
            for (int night = a; night < a + i; night++) {
                at = bestStep(boats, at, night);
            }
            return at;
        }
    }

    /** A SEARCH at sea; all numbers are of one whole, a hundred times as big with each look. */
    private static final class Looks {
        private final long[] likeliness = new long[CELLS];
        long found;
        long whole;
        int lastCell;

        void lookTimes(World world, int times) {
            found = 0;
            whole = 0;
            lastCell = NONE;
            for (int cell = 0; cell < CELLS; cell++) {
                likeliness[cell] = world.weights[cell];
                whole += world.weights[cell];
            }
            for (int i = 0; i < times; i++) {
                lookOnce(world.sure);
            }
        }

        private void lookOnce(int sure) {
            lastCell = likeliest();
            found = found * HUNDRED + likeliness[lastCell] * sure;
            for (int cell = 0; cell < CELLS; cell++) {
                likeliness[cell] *= cell == lastCell ? HUNDRED - sure : HUNDRED;
            }
            whole *= HUNDRED;
        }

        private int likeliest() {
            int best = 0;
            for (int cell = 1; cell < CELLS; cell++) {
                if (likeliness[cell] > likeliness[best]) {
                    best = cell;
                }
            }
            return best;
        }
    }

    /** The latest YEAR. */
    private static final class Year {
        private static final int STAYING = 10;

        final int[] rockOf = new int[NIGHTS];
        boolean isDrawn;
        private final int[] wills = new int[MOST_ROCKS];
        private long seed;

        void pass(World world, Boats boats, int aSeed, int rock) {
            isDrawn = true;
            seed = aSeed;
            rockOf[0] = rock;
            for (int night = 0; night < LAST_NIGHT; night++) {
                rockOf[night + 1] = nextRock(world, boats, rockOf[night], night);
            }
        }

        private int nextRock(World world, Boats boats, int rock, int night) {
            boats.learnFrom(world, rock, night);
            int sails = boats.sails(rock, night);
            int whole = STAYING;
            for (int to = 0; to < MOST_ROCKS; to++) {
                wills[to] = hasBit(sails, to) ? boats.willFor(world, rock, to, night) : 0;
                whole += wills[to];
            }
            int left = draw(whole);
            for (int to = 0; to < MOST_ROCKS; to++) {
                if (left < wills[to]) {
                    return to;
                }
                left -= wills[to];
            }
            return rock;
        }

        private int draw(int whole) {
            seed = (seed * 1103 + 12345) % 1_000_003;
            return (int) (seed % Math.max(1, whole));
        }

        int rocksHad() {
            int rocks = 0;
            for (int night = 0; night < NIGHTS; night++) {
                rocks |= 1 << rockOf[night];
            }
            return Integer.bitCount(rocks);
        }
    }
}
