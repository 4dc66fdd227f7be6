import java.util.NoSuchElementException;

/** Two copies of one thread that check each other; the words in capitals are those of the document. */
public final class TwinThreads {
    public static final int NONE = -1;

    private static final int NOTHING = -2;
    private static final int MOST_TURNS_LONG = 999;
    private static final int MOST_TURNS_ASKED = 300;
    private static final int MOST_STEPS_ASKED = 999;
    private static final int MOST_SPAN = 40;
    private static final int MOST_ALARM_TURN = 200;
    private static final int MOST_SIZE = 8;
    // No stretch between two POINTS has more TURNS than two times the greatest span and the POINT.
    private static final int MOST_TURNS_SHOT = 100;

    // The RULES of a TEXT, as they stand in Program.rules and Pair.rules.
    private static final int SPAN = 0;
    private static final int LOW = 1;
    private static final int HIGH = 2;
    private static final int LOADS = 3;
    private static final int BRANCHES = 4;
    private static final int HELD = 5;
    private static final int TRIES = 6;
    private static final int SEED = 7;

    // A place without an INSTRUCTION does what a halt does, so both are 0.
    private static final int HALT = 0;
    private static final int SET = 1;
    private static final int ADD = 2;
    private static final int SUB = 3;
    private static final int MUL = 4;
    private static final int XOR = 5;
    private static final int LOAD = 6;
    private static final int STORE = 7;
    private static final int OUT = 8;
    private static final int REAL = 9;
    private static final int WHOLE = 10;
    private static final int BITS = 11;
    private static final int PLUS = 12;
    private static final int TIMES = 13;
    private static final int JUMP = 14;
    private static final int ZERO = 15;
    private static final int LESS = 16;
    private static final int UNDER = 17;

    // The ADDRESS of what an out holds; whatever isn't below it leaves to OUTPUT.
    private static final int OUTSIDE = 32;

    // What a TURN is.
    private static final int TRAILER_STEP = 0;
    private static final int LEADER_STEP = 1;
    private static final int POINT_PASSES = 2;
    private static final int ALARM_BASE = 10;
    private static final int ALARM_BY_NOTHING = 7;

    private final Reader reader;
    private final Pair pair;
    private final Pair image;
    // What is asked is tried out here, so that nothing is changed and no call makes objects.
    private final Pair trial;
    private final Alone alone;
    private Program program;
    private Program draft;
    private boolean kept;

    public TwinThreads() {
        Program empty = new Program();
        reader = new Reader();
        program = empty;
        draft = new Program();
        pair = new Pair(empty);
        image = new Pair(empty);
        trial = new Pair(empty);
        alone = new Alone();
    }

    public int feed(int a, int b, int c, int d, int e) {
        if (!reader.hasRoom()) {
            return NONE;
        }
        reader.append(a);
        reader.append(b);
        reader.append(c);
        reader.append(d);
        reader.append(e);
        return reader.filled;
    }

    public int text(int n) {
        if (n < 0 || n > reader.filled) {
            return NOTHING;
        }
        reader.readText(draft, n);
        if (reader.fault != 0) {
            return NONE;
        }
        Program old = program;
        program = draft;
        draft = old;
        pair.begin(program);
        kept = false;
        return program.lines;
    }

    public int fault(int what) {
        if (what == 0) {
            return reader.fault;
        }
        return what == 1 ? reader.faultPlace : NONE;
    }

    public int named(int letters) {
        return program.placeOf(letters);
    }

    public int go(int n) {
        if (n < 0 || n > MOST_TURNS_ASKED) {
            return NONE;
        }
        int gone = 0;
        while (gone < n && pair.turn() != NOTHING) {
            gone++;
        }
        return gone;
    }

    public boolean flip(int sort, int number, int bit) {
        return pair.flipBit(sort, number, bit);
    }

    public int thread(int which, int what) throws IndexOutOfBoundsException, NoSuchElementException {
        if (which < 0 || which > 1) {
            throw new IndexOutOfBoundsException("no such thread");
        }
        Strand strand = pair.strand(which);
        switch (what) {
            case 0:
                return strand.place;
            case 1:
                return strand.steps;
            case 2:
                return strand.isHalted(program) ? 1 : 0;
            case 3:
                return which == 0 ? pair.whyLeaderWaits() : pair.whyTrailerWaits();
            default:
                throw new NoSuchElementException("no such what");
        }
    }

    public int register(int which, int number) {
        if (which < 0 || which > 1 || number < 0 || number > 7) {
            return 0;
        }
        return pair.strand(which).registers[number];
    }

    public int real(int which, int number) {
        if (which < 0 || which > 1 || number < 0 || number > 3) {
            return 0;
        }
        return pair.strand(which).floats[number];
    }

    public int memory(int address) {
        return address < 0 || address > 31 ? 0 : pair.outside.memory[address];
    }

    public int output(int k) {
        return pair.outside.keptOutput(k);
    }

    public int queued(int sort, int k, int what) {
        switch (sort) {
            case 0:
                return pair.queues.loadPart(k, what);
            case 1:
                return pair.queues.branchPart(k, what);
            case 2:
                return pair.queues.heldPart(k, what);
            default:
                return 0;
        }
    }

    public int next() {
        return pair.upcoming();
    }

    public int alarm(int k, int what) {
        return pair.tally.alarmPart(k, what);
    }

    public int plain(int n, int what) {
        if (n < 0 || n > MOST_STEPS_ASKED || what < 0 || what > 3) {
            return NONE;
        }
        alone.beginText(program);
        alone.run(program, n);
        switch (what) {
            case 0:
                return alone.strand.place;
            case 1:
                return alone.strand.isHalted(program) ? 1 : 0;
            case 2:
                return alone.strand.steps;
            default:
                return alone.outputs;
        }
    }

    public int plainOf(int n, int sort, int number) {
        if (n < 0 || n > MOST_STEPS_ASKED || number < 0) {
            return 0;
        }
        alone.beginText(program);
        alone.run(program, n);
        switch (sort) {
            case 0:
                return number > 7 ? 0 : alone.strand.registers[number];
            case 1:
                return number > 3 ? 0 : alone.strand.floats[number];
            case 2:
                return number > 31 ? 0 : alone.memory[number];
            case 3:
                return number >= alone.outputs || number >= Alone.MOST_OUTPUTS ? 0 : alone.output[number];
            default:
                return 0;
        }
    }

    public int compared() {
        return pair.tally.comparedSteps;
    }

    public int shot(int sort, int number, int bit, int what) {
        if (what < 0 || what > 1) {
            return NONE;
        }
        int turns = turnsToAlarm(sort, number, bit);
        return turns < 0 || what == 0 ? turns : trial.tally.alarmPart(0, 0);
    }

    public int matters(int which) {
        if (which < 0 || which > 1) {
            return NONE;
        }
        int bits = 0;
        for (int at = 0; at < 256; at++) {
            if (turnsToAlarm(which, at >> 5, at & 31) > 0) {
                bits++;
            }
        }
        return bits;
    }

    public int longBy(int span) {
        if (span < 1 || span > MOST_SPAN) {
            return NONE;
        }
        return turnsTillDone(SPAN, span, 0);
    }

    public int longWith(int span, int t) {
        if (span < 1 || span > MOST_SPAN || t < 1 || t > MOST_ALARM_TURN) {
            return NONE;
        }
        return turnsTillDone(SPAN, span, t);
    }

    public int need(int sort) {
        if (sort < 0 || sort > 2) {
            return NONE;
        }
        int most = turnsTillDone(LOADS + sort, MOST_SIZE, 0);
        if (most == NOTHING) {
            return NOTHING;
        }
        int size = 1;
        while (size < MOST_SIZE) {
            int turns = turnsTillDone(LOADS + sort, size, 0);
            if (turns != NOTHING && turns <= most) {
                return size;
            }
            size++;
        }
        return size;
    }

    public int bestSpan(int t) {
        if (t < 1 || t > MOST_ALARM_TURN) {
            return NONE;
        }
        int best = NOTHING;
        int least = MOST_TURNS_LONG + 1;
        for (int span = 1; span <= MOST_SPAN; span++) {
            int turns = turnsTillDone(SPAN, span, t);
            if (turns != NOTHING && turns < least) {
                least = turns;
                best = span;
            }
        }
        return best;
    }

    public int slowest(int which) {
        if (which < 0 || which > 1) {
            return NONE;
        }
        int most = NOTHING;
        for (int at = 0; at < 256; at++) {
            most = Math.max(most, turnsToAlarm(which, at >> 5, at & 31));
        }
        return most;
    }

    public boolean stick(int which, int number, int bit, boolean one) {
        if (which < 0 || which > 1 || number < 0 || number > 7 || bit < 0 || bit > 31) {
            return false;
        }
        pair.strand(which).stickBit(number, bit, one);
        return true;
    }

    public int loose() {
        int stuck = pair.stuckBits();
        pair.leader.loosen();
        pair.trailer.loosen();
        return stuck;
    }

    public int strays(int which) {
        if (which < 0 || which > 1) {
            return NONE;
        }
        Strand strand = pair.strand(which);
        alone.beginAt(pair.point, pair.outside.memory);
        alone.run(program, strand.steps);
        return strand.differences(alone.strand);
    }

    public int mean() {
        if (pair.tally.turns == 0) {
            return NOTHING;
        }
        return Floats.quotient(Floats.ofWhole(pair.tally.aheadSum), Floats.ofWhole(pair.tally.turns));
    }

    public int left(int k, int what) {
        return pair.outside.journalPart(k, what);
    }

    public int takes() {
        return pair.outside.journalSize() * (pair.outside.outputs > 0 ? 12 : 8);
    }

    public int chance(int seed, int n, int what) {
        if (seed < -1 || n < 1 || n > 5 || what < 0 || what > 2) {
            return NONE;
        }
        int last = seed == -1 ? program.rules[SEED] : seed;
        int alarmed = 0;
        int done = 0;
        int alarms = 0;
        for (int time = 0; time < n; time++) {
            last = runByChance(last);
            alarms += trial.tally.alarms;
            alarmed += trial.tally.alarms > 0 ? 1 : 0;
            done += trial.done ? 1 : 0;
        }
        if (what == 0) {
            return alarmed;
        }
        return what == 1 ? done : alarms;
    }

    public int keep() {
        image.copyFrom(pair);
        kept = true;
        return pair.tally.turns;
    }

    public int back() {
        if (!kept) {
            return NONE;
        }
        pair.copyFrom(image);
        return pair.tally.turns;
    }

    public int count(int what) {
        switch (what) {
            case 0:
                return program.size;
            case 5:
                return pair.ahead();
            case 7:
                return pair.queues.loads;
            case 8:
                return pair.queues.branches;
            case 9:
                return pair.queues.held;
            case 10:
                return pair.outside.stores;
            case 11:
                return pair.outside.outputs;
            case 12:
                return pair.done ? 1 : 0;
            case 13:
                return pair.down ? 1 : 0;
            case 14:
                return pair.outside.journalSize();
            case 17:
                return pair.stuckBits();
            default:
                return pair.tally.part(what);
        }
    }

    /** NONE: no such bit; NOTHING: no ALARM ahead of a POINT; else the trial has the ALARM as its latest. */
    private int turnsToAlarm(int sort, int number, int bit) {
        trial.copyFrom(pair);
        if (!trial.flipBit(sort, number, bit)) {
            return NONE;
        }
        for (int turns = 1; turns <= MOST_TURNS_SHOT; turns++) {
            int kind = trial.turn();
            if (kind > ALARM_BASE) {
                return turns;
            }
            if (kind == NOTHING || kind == POINT_PASSES) {
                return NOTHING;
            }
        }
        return NOTHING;
    }

    /** LONG with one rule told otherwise and, if alarmTurn isn't 0, an ALARM in place of that TURN. */
    private int turnsTillDone(int rule, int told, int alarmTurn) {
        trial.begin(program);
        trial.rules[rule & 7] = told;
        for (int turns = 1; turns <= MOST_TURNS_LONG; turns++) {
            if (turns == alarmTurn) {
                trial.alarmByNothing();
            } else {
                trial.turn();
            }
            if (trial.done) {
                return turns;
            }
            if (trial.down) {
                return NOTHING;
            }
        }
        return NOTHING;
    }

    /** Goes once BY CHANCE and answers the last number of its DRAWS. */
    private int runByChance(int seed) {
        int first = following(seed);
        int second = following(first);
        int third = following(second);
        int fourth = following(third);
        int ahead = drawn(first, 50);
        trial.begin(program);
        for (int turns = 0; turns < MOST_TURNS_ASKED; turns++) {
            if (turns == ahead) {
                trial.flipBit(drawn(second, 4), drawn(third, 8), drawn(fourth, 32));
            }
            trial.turn();
        }
        return fourth;
    }

    private static int following(int last) {
        return (last * 1103515245 + 12345) & 0x7FFFFFFF;
    }

    private static int drawn(int number, int modulo) {
        return modulo < 1 ? 0 : (number >> 16) % modulo;
    }

    /** A TEXT that has been read. */
    private static final class Program {
        static final int MOST_INSTRUCTIONS = 40;
        // "at a;" is the shortest LINE that tells a name, so 700 bytes tell no more than 140.
        static final int MOST_NAMES = 140;

        final int[] code = new int[64];
        final int[] first = new int[64];
        final int[] second = new int[64];
        final int[] third = new int[64];
        final int[] rules = new int[8];
        final int[] data = new int[32];
        final int[] names = new int[MOST_NAMES];
        final int[] namedPlaces = new int[MOST_NAMES];
        int nameCount;
        int size;
        int lines;

        Program() {
            clear();
        }

        void clear() {
            for (int at = 0; at < 64; at++) {
                code[at] = HALT;
            }
            for (int address = 0; address < 32; address++) {
                data[address] = 0;
            }
            rules[SPAN] = 8;
            rules[LOW] = 1;
            rules[HIGH] = 4;
            rules[LOADS] = 4;
            rules[BRANCHES] = 4;
            rules[HELD] = 4;
            rules[TRIES] = 3;
            rules[SEED] = 0;
            nameCount = 0;
            size = 0;
            lines = 0;
        }

        int placeOf(int name) {
            for (int k = 0; k < nameCount && k < MOST_NAMES; k++) {
                if (names[k] == name) {
                    return namedPlaces[k];
                }
            }
            return NONE;
        }

        void nameNext(int name) {
            if (nameCount >= 0 && nameCount < MOST_NAMES) {
                names[nameCount] = name;
                namedPlaces[nameCount] = size;
                nameCount++;
            }
        }

        void append(int instruction, int a, int b, int c) {
            int at = size & 63;
            code[at] = instruction;
            first[at] = a;
            second[at] = b;
            third[at] = c;
            size++;
        }
    }

    /** The TAPE, and what reads a TEXT from it, TOKEN by TOKEN, up to the first FAULT. */
    private static final class Reader {
        private static final int MOST_BYTES = 700;
        private static final int FED = 20;
        private static final int WORD_COUNT = 25;
        private static final int FIRST_INSTRUCTION = 7;
        private static final int DATA_WORD = 5;
        private static final int AT_WORD = 6;
        // Nine signs a LINE: six of its word, three of what stands behind it: least and greatest tell numbers by
        // theirs, n is a W that is told, w one that is asked for. The INSTRUCTIONS stand as their codes count.
        private static final int ENTRY = 9;
        private static final String SETTINGS =
            "span  s  slack lh queuesqqqtries t  seed  v  data  dv at    n  ";
        private static final String OF_REGISTERS =
            "halt     set   rv add   rrrsub   rrrmul   rrrxor   rrrload  rrmstore rrmout   r  ";
        private static final String OF_THE_REST =
            "real  fr whole rf bits  rf plus  ffftimes fffjump  w  zero  rw less  rrwunder ffw";
        private static final int TOO_LONG = -1;
        // More than any number of the language, and small enough for ten times it.
        private static final int TOO_MUCH = 100000;

        private static final int END = 0;
        private static final int WORD = 1;
        private static final int NUMBER = 2;
        private static final int SEMICOLON = 3;
        private static final int NO_TOKEN = 4;

        final byte[] tape = new byte[MOST_BYTES];
        int filled;
        int fault;
        int faultPlace = NONE;
        private final int[] words = new int[WORD_COUNT];
        private final int[] sorts = new int[WORD_COUNT * 3];
        private final int[] parts = new int[3];
        private final int[] wantedPlaces = new int[64];
        private int limit;
        private int position;
        private int token;
        private int value;
        private int place;
        private int toldRules;
        private int toldData;

        Reader() {
            enter(SETTINGS, 0);
            enter(OF_REGISTERS, FIRST_INSTRUCTION);
            enter(OF_THE_REST, FIRST_INSTRUCTION + REAL);
        }

        private void enter(String entries, int firstWord) {
            for (int at = 0; at < entries.length(); at++) {
                int word = firstWord + at / ENTRY;
                int column = at % ENTRY;
                int sort = word * 3 + column - 6;
                if (column < 6 && word < WORD_COUNT) {
                    words[word] |= letterBits(entries.charAt(at), column);
                } else if (sort >= 0 && sort < sorts.length) {
                    sorts[sort] = entries.charAt(at);
                }
            }
        }

        private static int letterBits(int sign, int number) {
            return sign >= 'a' && sign <= 'z' ? (sign - 'a' + 1) << (25 - 5 * number) : 0;
        }

        boolean hasRoom() {
            return filled + FED <= MOST_BYTES;
        }

        void append(int fourBytes) {
            for (int shift = 24; shift >= 0 && filled >= 0 && filled < MOST_BYTES; shift -= 8) {
                tape[filled] = (byte) (fourBytes >> shift);
                filled++;
            }
        }

        void readText(Program into, int length) {
            limit = length;
            position = 0;
            fault = 0;
            faultPlace = NONE;
            toldRules = 0;
            toldData = 0;
            filled = 0;
            into.clear();
            advance();
            for (int line = 0; line < MOST_BYTES && token != END && fault == 0; line++) {
                readLine(into);
                advance();
            }
            findNames(into);
        }

        private void findNames(Program into) {
            for (int at = 0; at < into.size && at < Program.MOST_INSTRUCTIONS && fault == 0; at++) {
                if (into.code[at] >= JUMP) {
                    int found = into.placeOf(into.third[at]);
                    if (found == NONE) {
                        fail(4, wantedPlaces[at]);
                    }
                    into.third[at] = found;
                }
            }
        }

        private void readLine(Program into) {
            int word = token == WORD ? wordNumber(value) : NONE;
            if (word == NONE) {
                fail(1, place);
            } else if (word >= FIRST_INSTRUCTION && into.size >= Program.MOST_INSTRUCTIONS) {
                fail(2, place);
            } else if ((toldRules >> word & 1) == 1) {
                fail(3, place);
            }
            parts[0] = 0;
            parts[1] = 0;
            parts[2] = 0;
            for (int k = 0; k < 3 && fault == 0; k++) {
                int sort = sortOf(word, k);
                if (sort != ' ') {
                    advance();
                    readPart(into, sort, k);
                }
            }
            if (fault == 0) {
                advance();
                if (token != SEMICOLON) {
                    fail(1, place);
                }
            }
            if (fault == 0) {
                into.lines++;
                takeLine(into, word);
            }
        }

        private void takeLine(Program into, int word) {
            if (word >= FIRST_INSTRUCTION) {
                into.append(word - FIRST_INSTRUCTION, parts[0], parts[1], parts[2]);
            } else if (word == AT_WORD) {
                into.nameNext(parts[0]);
            } else if (word == DATA_WORD) {
                into.data[parts[0] & 31] = parts[1];
            } else {
                toldRules |= 1 << word;
                for (int k = 0; k < 3; k++) {
                    if (sortOf(word, k) != ' ') {
                        into.rules[firstRule(word) + k & 7] = parts[k];
                    }
                }
            }
        }

        /** Of span, slack, queues, tries, seed, as they stand in SETTINGS. */
        private static int firstRule(int word) {
            switch (word) {
                case 0:
                    return SPAN;
                case 1:
                    return LOW;
                case 2:
                    return LOADS;
                case 3:
                    return TRIES;
                default:
                    return SEED;
            }
        }

        private void readPart(Program into, int sort, int k) {
            if (sort == 'n' || sort == 'w') {
                readName(into, sort);
            } else if (token != NUMBER) {
                fail(1, place);
            } else if (value < least(sort) || value > greatest(sort)) {
                fail(2, place);
            } else if (sort == 'd' && (toldData >> value & 1) == 1) {
                fail(3, place);
            } else {
                toldData |= sort == 'd' ? 1 << value : 0;
                if (k >= 0 && k < 3) {
                    parts[k] = value;
                }
            }
        }

        private void readName(Program into, int sort) {
            if (token != WORD || value == TOO_LONG || wordNumber(value) != NONE) {
                fail(1, place);
            } else if (sort == 'w') {
                wantedPlaces[into.size & 63] = place;
                // Where it goes is the third part of each INSTRUCTION that goes, however many stand ahead.
                parts[2] = value;
            } else if (into.placeOf(value) != NONE) {
                fail(3, place);
            } else {
                parts[0] = value;
            }
        }

        private int least(int sort) {
            if (sort == 'h') {
                return parts[0] + 1;
            }
            return sort == 's' || sort == 'q' || sort == 't' ? 1 : 0;
        }

        private static int greatest(int sort) {
            switch (sort) {
                case 's':
                    return 40;
                case 'l':
                case 'q':
                    return 8;
                case 'h':
                case 't':
                    return 9;
                case 'd':
                case 'm':
                    return 31;
                case 'r':
                    return 7;
                case 'f':
                    return 3;
                default:
                    return 99999;
            }
        }

        private int sortOf(int word, int k) {
            int at = word * 3 + k;
            return at >= 0 && at < sorts.length ? sorts[at] : ' ';
        }

        private int wordNumber(int letters) {
            for (int k = 0; k < WORD_COUNT; k++) {
                if (words[k] == letters) {
                    return k;
                }
            }
            return NONE;
        }

        private void fail(int which, int where) {
            fault = which;
            faultPlace = where;
        }

        private void advance() {
            while (position < limit && (signAt(position) == 32 || signAt(position) == 10)) {
                position++;
            }
            place = position;
            int sign = signAt(position);
            if (sign == NONE) {
                token = END;
            } else if (sign >= 'a' && sign <= 'z') {
                readWord();
            } else if (sign >= '0' && sign <= '9') {
                readNumber();
            } else {
                token = sign == ';' ? SEMICOLON : NO_TOKEN;
                position++;
            }
        }

        private void readWord() {
            token = WORD;
            value = 0;
            int letters = 0;
            while (position < limit && signAt(position) >= 'a' && signAt(position) <= 'z') {
                value = letters < 6 ? value | letterBits(signAt(position), letters) : TOO_LONG;
                letters++;
                position++;
            }
        }

        private void readNumber() {
            token = NUMBER;
            value = 0;
            while (position < limit && signAt(position) >= '0' && signAt(position) <= '9') {
                value = Math.min(value * 10 + signAt(position) - '0', TOO_MUCH);
                position++;
            }
        }

        private int signAt(int at) {
            return at >= 0 && at < limit && at < MOST_BYTES ? tape[at] & 255 : NONE;
        }
    }

    /** Floats by their bits, since the language leaves no way from a float to its bits. */
    private static final class Floats {
        private static final int EXPONENT = 0x7F800000;
        private static final int LOST = 0x7FC00000;
        private static final int SIGN = 0x80000000;
        // More bits than a float has: what is cut off below these and the float's own is never a half.
        private static final int GUARD = 30;

        static boolean isLost(int bits) {
            return (bits & EXPONENT) == EXPONENT;
        }

        static boolean isUnder(int one, int other) {
            return !isLost(one) && !isLost(other) && rank(one) < rank(other);
        }

        private static int rank(int bits) {
            return bits < 0 ? -(bits & 0x7FFFFFFF) : bits;
        }

        static int ofWhole(int number) {
            return nearest(number & SIGN, Math.abs((long) number), 0);
        }

        static int toWhole(int bits) {
            if (isLost(bits)) {
                return 0;
            }
            int exponent = exponentOf(bits);
            long size = digitsOf(bits);
            if (exponent > 8) {
                size = 0x80000000L;
            } else if (exponent >= 0) {
                size = size << exponent;
            } else {
                size = exponent < -24 ? 0 : size >> -exponent;
            }
            if (bits < 0) {
                return (int) -Math.min(size, 0x80000000L);
            }
            return (int) Math.min(size, 0x7FFFFFFFL);
        }

        static int product(int one, int other) {
            if (isLost(one) || isLost(other)) {
                return LOST;
            }
            return nearest((one ^ other) & SIGN, digitsOf(one) * digitsOf(other), exponentOf(one) + exponentOf(other));
        }

        static int sum(int one, int other) {
            if (isLost(one) || isLost(other)) {
                return LOST;
            }
            boolean oneIsHigher = exponentOf(one) >= exponentOf(other);
            int high = oneIsHigher ? one : other;
            int low = oneIsHigher ? other : one;
            int exponent = exponentOf(high) - GUARD;
            int down = exponentOf(high) - exponentOf(low);
            long above = digitsOf(high) << GUARD;
            // Only digits that are far below a half of the lowest one of above are cut off here.
            long below = down > 62 ? 0 : digitsOf(low) << GUARD >> down;
            long total = (high < 0 ? -above : above) + (low < 0 ? -below : below);
            if (total == 0) {
                return one & other & SIGN;
            }
            return nearest(total < 0 ? SIGN : 0, Math.abs(total), exponent);
        }

        /** Of numbers that aren't below 0, the second one above it. */
        static int quotient(int one, int other) {
            long divisor = digitsOf(other);
            if (divisor <= 0) {
                return 0;
            }
            long dividend = digitsOf(one) << GUARD;
            long rest = dividend % divisor == 0 ? 0 : 1;
            return nearest(0, dividend / divisor | rest, exponentOf(one) - exponentOf(other) - GUARD);
        }

        private static int exponentOf(int bits) {
            return Math.max(bits >> 23 & 255, 1) - 150;
        }

        private static long digitsOf(int bits) {
            return (bits & EXPONENT) == 0 ? bits & 0x7FFFFF : bits & 0x7FFFFF | 0x800000;
        }

        /** The float nearest to digits times two to the exponent; of two as near the even one. */
        private static int nearest(int sign, long digits, int exponent) {
            if (digits <= 0) {
                return sign;
            }
            int length = 64 - Long.numberOfLeadingZeros(digits);
            int lowest = Math.max(exponent + length - 24, -149);
            int cut = lowest - exponent;
            long whole;
            if (cut <= 0) {
                whole = digits << -cut;
            } else if (cut > 62) {
                whole = 0;
            } else {
                whole = digits >> cut;
                long rest = digits - (whole << cut);
                long half = 1L << cut - 1;
                whole += rest > half || rest == half && (whole & 1) == 1 ? 1 : 0;
            }
            // The leading 1 of the digits, and a carry out of them, count up the exponent by themselves.
            long bits = ((long) (lowest + 149) << 23) + whole;
            return sign | (int) Math.min(bits, EXPONENT);
        }
    }

    /** A THREAD: the LEADER, the TRAILER, what both go back to, or one that goes alone. */
    private static final class Strand {
        final int[] registers = new int[8];
        final int[] floats = new int[4];
        final int[] stuckMask = new int[8];
        final int[] stuckOnes = new int[8];
        int place;
        int steps;

        void clear() {
            for (int k = 0; k < 8; k++) {
                registers[k] = 0;
                floats[k & 3] = 0;
            }
            loosen();
            place = 0;
            steps = 0;
        }

        void loosen() {
            for (int k = 0; k < 8; k++) {
                stuckMask[k] = 0;
                stuckOnes[k] = 0;
            }
        }

        void copyFrom(Strand other) {
            System.arraycopy(other.stuckMask, 0, stuckMask, 0, 8);
            System.arraycopy(other.stuckOnes, 0, stuckOnes, 0, 8);
            standAs(other);
            steps = other.steps;
        }

        /** As the other one at a POINT, but for the bits that are STUCK in this one. */
        void standAs(Strand other) {
            for (int k = 0; k < 8; k++) {
                lay(k, other.registers[k]);
                floats[k & 3] = other.floats[k & 3];
            }
            place = other.place;
            steps = 0;
        }

        void lay(int number, int word) {
            int k = number & 7;
            registers[k] = word & ~stuckMask[k] | stuckOnes[k];
        }

        void stickBit(int number, int bit, boolean one) {
            int k = number & 7;
            int mask = 1 << bit;
            stuckMask[k] |= mask;
            stuckOnes[k] = one ? stuckOnes[k] | mask : stuckOnes[k] & ~mask;
            lay(k, registers[k]);
        }

        int stuckBits() {
            int bits = 0;
            for (int k = 0; k < 8; k++) {
                bits += Integer.bitCount(stuckMask[k]);
            }
            return bits;
        }

        boolean flipRegister(int number, int bit) {
            if (number < 0 || number > 7 || bit < 0 || bit > 31) {
                return false;
            }
            lay(number, registers[number] ^ 1 << bit);
            return true;
        }

        boolean flipFloat(int number, int bit) {
            if (number < 0 || number > 3 || bit < 0 || bit > 31) {
                return false;
            }
            floats[number] ^= 1 << bit;
            return true;
        }

        boolean flipPlace(int number, int bit) {
            if (number != 0 || bit < 0 || bit > 5) {
                return false;
            }
            place ^= 1 << bit;
            return true;
        }

        int differences(Strand other) {
            int found = place == other.place ? 0 : 1;
            for (int k = 0; k < 8; k++) {
                found += registers[k] == other.registers[k] ? 0 : 1;
            }
            for (int k = 0; k < 4; k++) {
                found += floats[k] == other.floats[k] ? 0 : 1;
            }
            return found;
        }

        boolean isHalted(Program program) {
            return program.code[place & 63] == HALT;
        }

        int address(Program program) {
            int at = place & 63;
            if (program.code[at] == OUT) {
                return OUTSIDE;
            }
            return registers[program.second[at] & 7] + program.third[at] & 31;
        }

        int word(Program program) {
            return registers[program.first[place & 63] & 7];
        }

        boolean goesElsewhere(Program program) {
            int at = place & 63;
            int a = program.first[at];
            int b = program.second[at];
            switch (program.code[at]) {
                case ZERO:
                    return registers[a & 7] == 0;
                case LESS:
                    return registers[a & 7] < registers[b & 7];
                case UNDER:
                    return Floats.isUnder(floats[a & 3], floats[b & 3]);
                default:
                    return false;
            }
        }

        void stepOn() {
            place = place + 1 & 63;
            steps++;
        }

        void stepTo(Program program, boolean elsewhere) {
            place = (elsewhere ? program.third[place & 63] : place + 1) & 63;
            steps++;
        }

        void stepLoading(Program program, int word) {
            lay(program.first[place & 63], word);
            stepOn();
        }

        /** A STEP that needs nothing but this THREAD. */
        void stepWithin(Program program) {
            int at = place & 63;
            int a = program.first[at];
            int b = program.second[at];
            int c = program.third[at];
            switch (program.code[at]) {
                case SET:
                    lay(a, b);
                    break;
                case ADD:
                    lay(a, registers[b & 7] + registers[c & 7]);
                    break;
                case SUB:
                    lay(a, registers[b & 7] - registers[c & 7]);
                    break;
                case MUL:
                    lay(a, registers[b & 7] * registers[c & 7]);
                    break;
                case XOR:
                    lay(a, registers[b & 7] ^ registers[c & 7]);
                    break;
                case REAL:
                    floats[a & 3] = Floats.ofWhole(registers[b & 7]);
                    break;
                case WHOLE:
                    lay(a, Floats.toWhole(floats[b & 3]));
                    break;
                case BITS:
                    lay(a, floats[b & 3]);
                    break;
                case PLUS:
                    floats[a & 3] = Floats.sum(floats[b & 3], floats[c & 3]);
                    break;
                case TIMES:
                    floats[a & 3] = Floats.product(floats[b & 3], floats[c & 3]);
                    break;
                default:
                    break;
            }
            stepTo(program, program.code[at] == JUMP);
        }
    }

    /** LOADS, BRANCHES and HELD; of HELD the first ones are COMPARED. */
    private static final class Queues {
        final int[] loadAddress = new int[8];
        final int[] loadWord = new int[8];
        final int[] branch = new int[8];
        final int[] heldAddress = new int[8];
        final int[] heldWord = new int[8];
        final int[] besideAddress = new int[8];
        final int[] besideWord = new int[8];
        int firstLoad;
        int loads;
        int firstBranch;
        int branches;
        int held;
        int comparedHeld;

        void clear() {
            firstLoad = 0;
            loads = 0;
            firstBranch = 0;
            branches = 0;
            held = 0;
            comparedHeld = 0;
        }

        void copyFrom(Queues other) {
            System.arraycopy(other.loadAddress, 0, loadAddress, 0, 8);
            System.arraycopy(other.loadWord, 0, loadWord, 0, 8);
            System.arraycopy(other.branch, 0, branch, 0, 8);
            System.arraycopy(other.heldAddress, 0, heldAddress, 0, 8);
            System.arraycopy(other.heldWord, 0, heldWord, 0, 8);
            System.arraycopy(other.besideAddress, 0, besideAddress, 0, 8);
            System.arraycopy(other.besideWord, 0, besideWord, 0, 8);
            firstLoad = other.firstLoad;
            loads = other.loads;
            firstBranch = other.firstBranch;
            branches = other.branches;
            held = other.held;
            comparedHeld = other.comparedHeld;
        }

        void addLoad(int address, int word) {
            int at = firstLoad + loads & 7;
            loadAddress[at] = address;
            loadWord[at] = word;
            loads++;
        }

        int firstLoadAddress() {
            return loadAddress[firstLoad & 7];
        }

        int removeLoad() {
            int word = loadWord[firstLoad & 7];
            firstLoad = firstLoad + 1 & 7;
            loads--;
            return word;
        }

        void addBranch(boolean elsewhere) {
            branch[firstBranch + branches & 7] = elsewhere ? 1 : 0;
            branches++;
        }

        boolean firstBranchGoes() {
            return branch[firstBranch & 7] == 1;
        }

        void removeBranch() {
            firstBranch = firstBranch + 1 & 7;
            branches--;
        }

        void hold(int address, int word) {
            heldAddress[held & 7] = address;
            heldWord[held & 7] = word;
            held++;
        }

        /** Whether the first of HELD that isn't COMPARED is this. */
        boolean isHeld(int address, int word) {
            return heldAddress[comparedHeld & 7] == address && heldWord[comparedHeld & 7] == word;
        }

        void layBeside(int address, int word) {
            besideAddress[comparedHeld & 7] = address;
            besideWord[comparedHeld & 7] = word;
            comparedHeld++;
        }

        /** The number of the last of HELD with that ADDRESS, or NONE. */
        int lastHeld(int address) {
            for (int k = Math.min(held, 8) - 1; k >= 0; k--) {
                if (heldAddress[k] == address) {
                    return k;
                }
            }
            return NONE;
        }

        boolean allCompared() {
            return loads == 0 && branches == 0 && comparedHeld == held;
        }

        boolean allSame() {
            for (int k = 0; k < held && k < 8; k++) {
                if (heldAddress[k] != besideAddress[k] || heldWord[k] != besideWord[k]) {
                    return false;
                }
            }
            return true;
        }

        boolean flipQueued(int sort, int number, int bit) {
            switch (sort) {
                case 6:
                    return flipIn(loadAddress, firstLoad + number, number < loads && bit < 5, bit);
                case 7:
                    return flipIn(loadWord, firstLoad + number, number < loads, bit);
                case 8:
                    return flipIn(branch, firstBranch + number, number < branches && bit < 1, bit);
                case 9:
                    return flipIn(heldAddress, number, number < held && bit < 6, bit);
                case 10:
                    return flipIn(heldWord, number, number < held, bit);
                case 11:
                    return flipIn(besideAddress, number, number < comparedHeld && bit < 6, bit);
                case 12:
                    return flipIn(besideWord, number, number < comparedHeld, bit);
                default:
                    return false;
            }
        }

        private static boolean flipIn(int[] row, int at, boolean there, int bit) {
            if (there) {
                row[at & 7] ^= 1 << bit;
            }
            return there;
        }

        int loadPart(int k, int what) {
            if (k < 0 || k >= loads) {
                return 0;
            }
            int at = firstLoad + k & 7;
            if (what == 0) {
                return loadAddress[at];
            }
            return what == 1 ? loadWord[at] : 0;
        }

        int branchPart(int k, int what) {
            return k < 0 || k >= branches || what != 0 ? 0 : branch[firstBranch + k & 7];
        }

        int heldPart(int k, int what) {
            if (k < 0 || k >= held || k > 7) {
                return 0;
            }
            boolean isCompared = k < comparedHeld;
            switch (what) {
                case 0:
                    return heldAddress[k];
                case 1:
                    return heldWord[k];
                case 2:
                    return isCompared ? 1 : 0;
                case 3:
                    return isCompared ? besideAddress[k] : 0;
                case 4:
                    return isCompared ? besideWord[k] : 0;
                default:
                    return 0;
            }
        }
    }

    /** MEMORY, OUTPUT and JOURNAL; it is WIDE from the first output on. */
    private static final class Outside {
        private static final int MOST_OUTPUTS = 40;

        final int[] memory = new int[32];
        final int[] output = new int[MOST_OUTPUTS];
        final int[] leftAddress = new int[16];
        final int[] leftWord = new int[16];
        final int[] leftPoint = new int[16];
        int stores;
        int outputs;

        void begin(int[] data) {
            System.arraycopy(data, 0, memory, 0, 32);
            stores = 0;
            outputs = 0;
        }

        void copyFrom(Outside other) {
            System.arraycopy(other.memory, 0, memory, 0, 32);
            System.arraycopy(other.output, 0, output, 0, MOST_OUTPUTS);
            System.arraycopy(other.leftAddress, 0, leftAddress, 0, 16);
            System.arraycopy(other.leftWord, 0, leftWord, 0, 16);
            System.arraycopy(other.leftPoint, 0, leftPoint, 0, 16);
            stores = other.stores;
            outputs = other.outputs;
        }

        void receive(int address, int word, int point) {
            int at = stores + outputs & 15;
            leftAddress[at] = Math.min(address, OUTSIDE);
            leftWord[at] = word;
            leftPoint[at] = point;
            if (address < OUTSIDE) {
                memory[address & 31] = word;
                stores++;
            } else {
                output[Math.floorMod(outputs, MOST_OUTPUTS)] = word;
                outputs++;
            }
        }

        int keptOutput(int k) {
            int keptOnes = Math.min(outputs, MOST_OUTPUTS);
            return k < 0 || k >= keptOnes ? 0 : output[Math.floorMod(outputs - keptOnes + k, MOST_OUTPUTS)];
        }

        int journalSize() {
            return Math.min(stores + outputs, 16);
        }

        int journalPart(int k, int what) {
            if (k < 0 || k >= journalSize()) {
                return 0;
            }
            int at = stores + outputs - journalSize() + k & 15;
            switch (what) {
                case 0:
                    return leftAddress[at];
                case 1:
                    return leftWord[at];
                case 2:
                    return leftPoint[at];
                default:
                    return 0;
            }
        }
    }

    /** What is counted since the TEXT, and the latest ALARMS. */
    private static final class Tally {
        final int[] alarmSort = new int[8];
        final int[] alarmTurn = new int[8];
        final int[] alarmLeaderSteps = new int[8];
        final int[] alarmTrailerSteps = new int[8];
        int turns;
        int points;
        int alarms;
        int alarmsSincePoint;
        int greatestAhead;
        int aheadSum;
        int leaderTurns;
        int trailerTurns;
        int comparedSteps;

        void clear() {
            turns = 0;
            points = 0;
            alarms = 0;
            alarmsSincePoint = 0;
            greatestAhead = 0;
            aheadSum = 0;
            leaderTurns = 0;
            trailerTurns = 0;
            comparedSteps = 0;
        }

        void copyFrom(Tally other) {
            System.arraycopy(other.alarmSort, 0, alarmSort, 0, 8);
            System.arraycopy(other.alarmTurn, 0, alarmTurn, 0, 8);
            System.arraycopy(other.alarmLeaderSteps, 0, alarmLeaderSteps, 0, 8);
            System.arraycopy(other.alarmTrailerSteps, 0, alarmTrailerSteps, 0, 8);
            turns = other.turns;
            points = other.points;
            alarms = other.alarms;
            alarmsSincePoint = other.alarmsSincePoint;
            greatestAhead = other.greatestAhead;
            aheadSum = other.aheadSum;
            leaderTurns = other.leaderTurns;
            trailerTurns = other.trailerTurns;
            comparedSteps = other.comparedSteps;
        }

        void addAlarm(int sort, int leaderSteps, int trailerSteps) {
            int at = alarms & 7;
            alarmSort[at] = sort;
            alarmTurn[at] = turns;
            alarmLeaderSteps[at] = leaderSteps;
            alarmTrailerSteps[at] = trailerSteps;
            alarms++;
            alarmsSincePoint++;
        }

        int alarmPart(int k, int what) {
            if (k < 0 || k >= alarms || k > 7) {
                return NONE;
            }
            int at = alarms - 1 - k & 7;
            switch (what) {
                case 0:
                    return alarmSort[at];
                case 1:
                    return alarmTurn[at];
                case 2:
                    return alarmLeaderSteps[at];
                case 3:
                    return alarmTrailerSteps[at];
                default:
                    return NONE;
            }
        }

        /** By the numbers of count(). */
        int part(int what) {
            switch (what) {
                case 1:
                    return turns;
                case 2:
                    return points;
                case 3:
                    return alarms;
                case 4:
                    return alarmsSincePoint;
                case 6:
                    return greatestAhead;
                case 15:
                    return leaderTurns;
                case 16:
                    return trailerTurns;
                default:
                    return NONE;
            }
        }
    }

    /** THE PAIR, by the rules of a TEXT or by others. */
    private static final class Pair {
        final int[] rules = new int[8];
        final Strand leader = new Strand();
        final Strand trailer = new Strand();
        // As both were at the last POINT; nothing is STUCK in it.
        final Strand point = new Strand();
        final Queues queues = new Queues();
        final Outside outside = new Outside();
        final Tally tally = new Tally();
        Program program;
        boolean done;
        boolean down;

        Pair(Program first) {
            begin(first);
        }

        void begin(Program text) {
            program = text;
            System.arraycopy(text.rules, 0, rules, 0, 8);
            leader.clear();
            trailer.clear();
            point.clear();
            queues.clear();
            outside.begin(text.data);
            tally.clear();
            done = false;
            down = false;
        }

        void copyFrom(Pair other) {
            program = other.program;
            System.arraycopy(other.rules, 0, rules, 0, 8);
            leader.copyFrom(other.leader);
            trailer.copyFrom(other.trailer);
            point.copyFrom(other.point);
            queues.copyFrom(other.queues);
            outside.copyFrom(other.outside);
            tally.copyFrom(other.tally);
            done = other.done;
            down = other.down;
        }

        Strand strand(int which) {
            return which == 0 ? leader : trailer;
        }

        int ahead() {
            return leader.steps - trailer.steps;
        }

        int stuckBits() {
            return leader.stuckBits() + trailer.stuckBits();
        }

        boolean flipBit(int sort, int number, int bit) {
            if (number < 0 || bit < 0 || bit > 31) {
                return false;
            }
            switch (sort) {
                case 0:
                case 1:
                    return strand(sort).flipRegister(number, bit);
                case 2:
                case 3:
                    return strand(sort - 2).flipFloat(number, bit);
                case 4:
                case 5:
                    return strand(sort - 4).flipPlace(number, bit);
                default:
                    return queues.flipQueued(sort, number, bit);
            }
        }

        int whyLeaderWaits() {
            if (leader.steps >= rules[SPAN]) {
                return 1;
            }
            int code = program.code[leader.place & 63];
            if (code == HALT) {
                return 2;
            }
            if (ahead() >= rules[HIGH]) {
                return 3;
            }
            boolean full = code == LOAD && queues.loads >= rules[LOADS]
                || code >= ZERO && queues.branches >= rules[BRANCHES]
                || (code == STORE || code == OUT) && queues.held >= rules[HELD];
            return full ? 4 : 0;
        }

        int whyTrailerWaits() {
            if (trailer.steps >= rules[SPAN]) {
                return 1;
            }
            int code = program.code[trailer.place & 63];
            if (code == HALT) {
                return 2;
            }
            if (ahead() < 1 || ahead() < rules[LOW] && whyLeaderWaits() == 0) {
                return 3;
            }
            boolean empty = code == LOAD && queues.loads == 0
                || code >= ZERO && queues.branches == 0
                || (code == STORE || code == OUT) && queues.comparedHeld >= queues.held;
            return empty ? 4 : 0;
        }

        /** What the next TURN would be, in the numbers of next(). */
        int upcoming() {
            if (done || down) {
                return NOTHING;
            }
            if (whyTrailerWaits() == 0) {
                int alarm = alarmOfTrailer();
                return alarm == 0 ? TRAILER_STEP : ALARM_BASE + alarm;
            }
            if (whyLeaderWaits() == 0) {
                return LEADER_STEP;
            }
            int alarm = alarmOfPoint();
            return alarm == 0 ? POINT_PASSES : ALARM_BASE + alarm;
        }

        private int alarmOfTrailer() {
            int code = program.code[trailer.place & 63];
            if (code == LOAD) {
                return queues.firstLoadAddress() == trailer.address(program) ? 0 : 1;
            }
            if (code >= ZERO) {
                return queues.firstBranchGoes() == trailer.goesElsewhere(program) ? 0 : 2;
            }
            if (code == STORE || code == OUT) {
                return queues.isHeld(trailer.address(program), trailer.word(program)) ? 0 : 3;
            }
            return 0;
        }

        private int alarmOfPoint() {
            if (leader.differences(trailer) != 0) {
                return 4;
            }
            if (ahead() != 0 || !queues.allCompared()) {
                return 5;
            }
            return queues.allSame() ? 0 : 6;
        }

        /** A TURN, if one comes; what it was, in the numbers of next(). */
        int turn() {
            int kind = upcoming();
            if (kind == NOTHING) {
                return kind;
            }
            tally.turns++;
            if (kind == TRAILER_STEP) {
                stepTrailer();
            } else if (kind == LEADER_STEP) {
                stepLeader();
            } else if (kind == POINT_PASSES) {
                passPoint();
            } else {
                raise(kind - ALARM_BASE);
            }
            tally.aheadSum += ahead();
            tally.greatestAhead = Math.max(tally.greatestAhead, ahead());
            return kind;
        }

        void alarmByNothing() {
            if (!done && !down) {
                tally.turns++;
                raise(ALARM_BY_NOTHING);
            }
        }

        private void stepLeader() {
            tally.leaderTurns++;
            int code = program.code[leader.place & 63];
            if (code == LOAD) {
                int address = leader.address(program);
                int last = queues.lastHeld(address);
                int word = last < 0 || last > 7 ? outside.memory[address & 31] : queues.heldWord[last];
                queues.addLoad(address, word);
                leader.stepLoading(program, word);
            } else if (code >= ZERO) {
                boolean elsewhere = leader.goesElsewhere(program);
                queues.addBranch(elsewhere);
                leader.stepTo(program, elsewhere);
            } else if (code == STORE || code == OUT) {
                queues.hold(leader.address(program), leader.word(program));
                leader.stepOn();
            } else {
                leader.stepWithin(program);
            }
        }

        /** A STEP that brings no ALARM: what is handed over is what the TRAILER has. */
        private void stepTrailer() {
            tally.trailerTurns++;
            int code = program.code[trailer.place & 63];
            if (code == LOAD) {
                trailer.stepLoading(program, queues.removeLoad());
            } else if (code >= ZERO) {
                boolean elsewhere = queues.firstBranchGoes();
                queues.removeBranch();
                trailer.stepTo(program, elsewhere);
            } else if (code == STORE || code == OUT) {
                queues.layBeside(trailer.address(program), trailer.word(program));
                trailer.stepOn();
            } else {
                trailer.stepWithin(program);
            }
        }

        private void passPoint() {
            tally.points++;
            tally.alarmsSincePoint = 0;
            tally.comparedSteps += leader.steps;
            for (int k = 0; k < queues.held && k < 8; k++) {
                outside.receive(queues.heldAddress[k], queues.heldWord[k], tally.points);
            }
            point.standAs(leader);
            leader.steps = 0;
            trailer.steps = 0;
            queues.clear();
            done = leader.isHalted(program);
        }

        private void raise(int sort) {
            tally.addAlarm(sort, leader.steps, trailer.steps);
            // The ALARMS up to 3 come by a STEP of the TRAILER, which counts as one.
            tally.trailerTurns += sort <= 3 ? 1 : 0;
            leader.standAs(point);
            trailer.standAs(point);
            queues.clear();
            down = tally.alarmsSincePoint >= rules[TRIES];
        }
    }

    /** One THREAD alone, with a memory and an OUTPUT of its own: PLAIN, or what strays() measures by. */
    private static final class Alone {
        static final int MOST_OUTPUTS = 1000;

        final Strand strand = new Strand();
        final int[] memory = new int[32];
        final int[] output = new int[MOST_OUTPUTS];
        int outputs;

        void beginText(Program program) {
            strand.clear();
            System.arraycopy(program.data, 0, memory, 0, 32);
            outputs = 0;
        }

        void beginAt(Strand point, int[] words) {
            strand.standAs(point);
            System.arraycopy(words, 0, memory, 0, 32);
            outputs = 0;
        }

        void run(Program program, int steps) {
            for (int k = 0; k < steps && !strand.isHalted(program); k++) {
                step(program);
            }
        }

        private void step(Program program) {
            int code = program.code[strand.place & 63];
            if (code == LOAD) {
                strand.stepLoading(program, memory[strand.address(program) & 31]);
            } else if (code >= ZERO) {
                strand.stepTo(program, strand.goesElsewhere(program));
            } else if (code == STORE) {
                memory[strand.address(program) & 31] = strand.word(program);
                strand.stepOn();
            } else if (code == OUT) {
                if (outputs >= 0 && outputs < MOST_OUTPUTS) {
                    output[outputs] = strand.word(program);
                    outputs++;
                }
                strand.stepOn();
            } else {
                strand.stepWithin(program);
            }
        }
    }
}
