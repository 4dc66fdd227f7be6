/** What the document says of ordinary calls, along the document: what the tests of boundaries don't quote. */
final class OrdinaryTest extends Edge {
    // Six STEPS each, two TURNS for each of them, and the POINT: DONE behind 13 TURNS.
    private static final String STORY = "data 3 20;set 1 2;load 2 0 3;add 3 2 1;store 3 0 4;less 1 2 a;out 1;at a;out 3;halt;";
    // A POINT behind three STEPS each and one behind the fourth: DONE behind 10 TURNS.
    private static final String FOUR = "span 3;slack 2 3;set 0 1;set 1 2;set 2 3;set 3 4;halt;";
    // Seven TURNS of the LEADER, then seven of the TRAILER, then the POINT.
    private static final String HANDED = "slack 8 9;queues 8 8 8;data 1 5;data 2 6;load 1 0 1;load 2 0 2;zero 0 a;at a;zero 1 b;"
        + "at b;store 1 0 3;load 3 0 3;out 2;halt;";
    private static final String[] LINES = {"span 1", "slack 1 2", "queues 1 2 3", "tries 1", "seed 1", "data 1 2", "at b",
        "set 1 2", "add 1 2 3", "sub 1 2 3", "mul 1 2 3", "xor 1 2 3", "load 1 2 3", "store 1 2 3", "out 1", "real 1 2",
        "whole 1 2", "bits 1 2", "plus 1 2 3", "times 1 2 3", "jump a", "zero 1 a", "less 1 2 a", "under 1 2 a", "halt"};

    public static void main(String[] args) {
        runAll(OrdinaryTest.class, args);
    }

    /**
     * Promise 3, Terms 1: "A TEXT: { LINE ';' }. LINE: span N | slack N N | queues N N N | tries N | seed N | data N N |
     * at W | set N N | add N N N | sub N N N | mul N N N | xor N N N | load N N N | store N N N | out N | real N N |
     * whole N N | bits N N | plus N N N | times N N N | jump W | zero N W | less N N W | under N N W | halt."
     */
    static void promise03_everyLine() {
        StringBuilder all = new StringBuilder("at a;");
        for (String line : LINES) {
            String ahead = "at a;" + line;
            fine(ahead + ";", 2);
            fault(ahead, 1, ahead.length());
            fault(ahead + " 1;", 1, ahead.length() + 1);
            fault(ahead + " c;", 1, ahead.length() + 1);
            int part = ahead.lastIndexOf(' ');
            if (part > 4) {
                fault(ahead.substring(0, part) + ";", 1, part);
                boolean isName = Character.isLetter(ahead.charAt(part + 1));
                fault(ahead.substring(0, part) + (isName ? " 1;" : " c;"), 1, part + 1);
            }
            all.append(line).append(';');
        }
        due("INSTRUCTIONS", fine(all.toString(), 26).count(0), 18);
    }

    /** Promise 4, Terms 1: "FAULTS, the first along the text (of one place the least), with its place: 1 a TOKEN that is none" */
    static void promise04_withItsPlace() {
        fault("spam 2;", 1, 0);
        fault("span 1;\n  spam 2;", 1, 10);
        fault("span 41;", 2, 5);
        fault("span 40; data 32 1;", 2, 14);
        fault("tries 2;tries 3;", 3, 8);
        fault("halt;jump b;", 4, 10);
        fault("halt;Halt;", 1, 5);
    }

    /**
     * Promise 8, Terms 2: "A THREAD: its PLACE (0 .. 63; at first 0)" and "A STEP does the INSTRUCTION at its PLACE; the
     * PLACE is 1 more then (of 64 the rest), if it doesn't go elsewhere."
     */
    static void promise08_placeByPlace() {
        TwinThreads x = told(STORY);
        int[] places = {0, 1, 2, 3, 4, 6, 7};
        int[] words = {0, 0, 0, 22, 22, 22, 22};
        for (int steps = 0; steps < 7; steps++) {
            due("the LEADER's PLACE", thread(x, 0, 0), places[steps]);
            due("the TRAILER's PLACE", thread(x, 1, 0), places[steps]);
            due("what the third STEP did", x.register(0, 3), words[steps]);
            go(x, steps < 6 ? 2 : 1);
        }
    }

    /** Promise 13, Terms 2: "ADDRESS of load, store: the second REGISTER and the number, of 32 the rest (0 at least)." */
    static void promise13_registerAndNumber() {
        TwinThreads x = told("slack 8 9;queues 8 1 8;set 1 5;load 2 1 0;load 2 1 7;store 1 1 9;set 1 30;load 2 1 4;store 1 1 31;halt;");
        go(x, 7);
        int[] loads = {5, 12, 2};
        for (int k = 0; k < 3; k++) {
            due("queued(0, " + k + ", 0)", x.queued(0, k, 0), loads[k]);
        }
        due("queued(2, 0, 0)", x.queued(2, 0, 0), 14);
        due("queued(2, 1, 0)", x.queued(2, 1, 0), 29);
    }

    /** Promise 9, Terms 2: "A FLOAT whose exponent is of ones alone is LOST; whole: towards 0" */
    static void promise09_exponentOfOnes() {
        int[] lost = {0x7F800000, 0xFF800000, 0x7F800001, 0x7FC00000, 0xFFFFFFFF, 0x7FFFFFFF};
        for (int bits : lost) {
            due("whole of " + bits, wholeOf(bits), 0);
        }
        due("whole of the greatest that isn't", wholeOf(0x7F7FFFFF), MAX);
        due("whole of the least that isn't", wholeOf(0xFF7FFFFF), MIN);
        due("whole of 127 and a half", wholeOf(0x42FF0000), 127);
        due("whole of -127 and a half", wholeOf(0xC2FF0000), -127);
    }

    private static int wholeOf(int bits) {
        TwinThreads x = told("set 1 7;whole 1 0;halt;");
        lay(x, 2, 0, bits);
        lay(x, 3, 0, bits);
        finish(x);
        return x.register(1, 1);
    }

    /**
     * Promise 10, Terms 2: "plus, times: the nearest float (of two as near the even one; as floats are added, multiplied,
     * signs of 0 and what is beyond the greatest, too: 2139095040 or -8388608); 2143289344, if one of the two is LOST."
     */
    static void promise10_addedAndMultiplied() {
        float[] numbers = {0f, -0f, 1f, -1f, 0.1f, -0.3f, 3e38f, -3e38f, 1e-44f, -7e-39f, 16777215f, 1.5f, 8388609.5f};
        for (float a : numbers) {
            for (float b : numbers) {
                addedAndMultiplied(a, b, Float.floatToIntBits(a + b), Float.floatToIntBits(a * b));
            }
        }
        addedAndMultiplied(3e38f, 3e38f, 2139095040, 2139095040);
        addedAndMultiplied(-3e38f, -3e38f, -8388608, 2139095040);
        addedAndMultiplied(1f, Float.NaN, 2143289344, 2143289344);
        addedAndMultiplied(Float.NEGATIVE_INFINITY, 1f, 2143289344, 2143289344);
    }

    private static void addedAndMultiplied(float a, float b, int sum, int product) {
        TwinThreads x = told("plus 2 0 1;times 3 0 1;halt;");
        for (int sort = 2; sort < 4; sort++) {
            lay(x, sort, 0, Float.floatToIntBits(a));
            lay(x, sort, 1, Float.floatToIntBits(b));
        }
        finish(x);
        due(a + " plus " + b, x.real(0, 2), sum);
        due(a + " times " + b, x.real(1, 3), product);
    }

    /**
     * Promise 17, Terms 2: "PLAIN: one THREAD alone, by its STEPS: load takes the word from the memory, store lays it there,
     * out puts it behind OUTPUT."
     */
    static void promise17_loadsAndStores() {
        TwinThreads x = told(STORY);
        int[] registers = {0, 2, 20, 22};
        for (int number = 0; number < 4; number++) {
            due("a REGISTER", x.plainOf(3, 0, number), registers[number]);
        }
        due("ahead of the load", x.plainOf(1, 0, 2), 0);
        due("behind the load", x.plainOf(2, 0, 2), 20);
        due("ahead of the store", x.plainOf(3, 2, 4), 0);
        due("behind the store", x.plainOf(4, 2, 4), 22);
        due("what was loaded", x.plainOf(6, 2, 3), 20);
        due("ahead of the out", x.plainOf(5, 3, 0), 0);
        due("behind the out", x.plainOf(6, 3, 0), 22);
    }

    /**
     * Promise 35, Terms 2: "What is counted since the last POINT (the beginning, too): STEPS of each. AHEAD: STEPS of the
     * LEADER less those of the TRAILER."
     */
    static void promise35_stepsOfEach() {
        TwinThreads x = told(FOUR);
        int[][] due = {{0, 0, 0}, {1, 0, 1}, {2, 0, 2}, {2, 1, 1}, {3, 1, 2}, {3, 2, 1}, {3, 3, 0}, {0, 0, 0}, {1, 0, 1},
            {1, 1, 0}, {0, 0, 0}};
        for (int turns = 0; turns < due.length; turns++) {
            due("STEPS of the LEADER behind " + turns, thread(x, 0, 1), due[turns][0]);
            due("STEPS of the TRAILER behind " + turns, thread(x, 1, 1), due[turns][1]);
            due("AHEAD behind " + turns, x.count(5), due[turns][2]);
            due("go(1)", x.go(1), turns < 10 ? 1 : 0);
        }
    }

    /**
     * Promise 13, Terms 2: "THE PAIR: LEADER, TRAILER; MEMORY, OUTPUT (outside); LOADS, BRANCHES, HELD in order." and
     * "LEADER's STEP: load takes the word of the last of HELD with that ADDRESS, of MEMORY without; ADDRESS and word come to
     * LOADS; zero, less, under: whether it goes to W comes to BRANCHES; store, out: ADDRESS (of out 32) and word come to HELD."
     */
    static void promise13_leadersSteps() {
        TwinThreads x = told(HANDED);
        int[][] queued = {{0, 0, 0}, {1, 0, 0}, {2, 0, 0}, {2, 1, 0}, {2, 2, 0}, {2, 2, 1}, {3, 2, 1}, {3, 2, 2}};
        for (int turns = 0; turns < 8; turns++) {
            for (int sort = 0; sort < 3; sort++) {
                due("count(" + (7 + sort) + ") behind " + turns, x.count(7 + sort), queued[turns][sort]);
            }
            due("go(1)", x.go(turns < 7 ? 1 : 0), turns < 7 ? 1 : 0);
        }
        shown(x, 0, new int[][] {{1, 5}, {2, 6}, {3, 5}, {0, 0}});
        shown(x, 1, new int[][] {{1, 0}, {0, 0}, {0, 0}});
        shown(x, 2, new int[][] {{3, 5, 0, 0, 0}, {32, 6, 0, 0, 0}, {0, 0, 0, 0, 0}});
        due("MEMORY", x.memory(3), 0);
        due("OUTPUT", x.count(11), 0);
    }

    private static void shown(TwinThreads x, int sort, int[][] due) {
        for (int k = 0; k < due.length; k++) {
            for (int what = 0; what < due[k].length; what++) {
                due("queued(" + sort + ", " + k + ", " + what + ")", x.queued(sort, k, what), due[k][what]);
            }
        }
    }

    /**
     * Promise 13, Terms 2: "TRAILER's STEP: load: the first of LOADS goes: ALARM 1, if its ADDRESS is another one, else the
     * word is taken; zero, less, under: the first of BRANCHES goes: ALARM 2, if it isn't as the TRAILER has it; store, out:
     * ADDRESS and word come beside the first of HELD that isn't COMPARED: ALARM 3, if they aren't both the same, else it is
     * COMPARED."
     */
    static void promise13_trailersSteps() {
        TwinThreads x = told(HANDED);
        go(x, 8);
        shown(x, 0, new int[][] {{2, 6}, {3, 5}, {0, 0}});
        due("the word is taken", x.register(1, 1), 5);
        go(x, 2);
        shown(x, 0, new int[][] {{3, 5}, {0, 0}});
        shown(x, 1, new int[][] {{0, 0}, {0, 0}});
        due("one of BRANCHES is left", x.count(8), 1);
        go(x, 2);
        due("none is left", x.count(8), 0);
        shown(x, 2, new int[][] {{3, 5, 1, 3, 5}, {32, 6, 0, 0, 0}});
        go(x, 2);
        due("no LOADS are left", x.count(7), 0);
        shown(x, 2, new int[][] {{3, 5, 1, 3, 5}, {32, 6, 1, 32, 6}});
        go(x, 1);
        due("MEMORY", x.memory(3), 5);
        due("OUTPUT", x.output(0), 6);
    }

    /** Promise 15, Terms 2: "load: the first of LOADS goes: ALARM 1" and "ALARM 2, if it isn't as the TRAILER has it" and "ALARM 3" */
    static void promise15_alarmsOfTheTrailer() {
        int[][] due = {{6, 0, 0, 1, 8, 0}, {8, 0, 0, 2, 10, 2}, {8, 1, 0, 2, 11, 3}, {10, 0, 1, 3, 12, 4}, {9, 0, 2, 3, 12, 4},
            {6, 2, 4, 1, 13, 5}, {9, 1, 0, 3, 14, 6}};
        for (int[] d : due) {
            TwinThreads x = told(HANDED);
            go(x, 7);
            flip(x, d[0], d[1], d[2]);
            go(x, d[4] - 7);
            due("ALARMS by a FLIP of sort " + d[0], x.count(3), 1);
            due("which", x.alarm(0, 0), d[3]);
            due("its TURN", x.alarm(0, 1), d[4]);
            due("STEPS of the LEADER", x.alarm(0, 2), 7);
            due("STEPS of the TRAILER", x.alarm(0, 3), d[5]);
            due("HELD is empty", x.count(9), 0);
        }
    }

    /** Promise 6, Terms 2: "It is DONE, if then both are HALTED: no TURNS come any more." */
    static void promise06_done() {
        TwinThreads x = told(FOUR);
        go(x, 7);
        due("a POINT, and both aren't HALTED", x.count(2) * 10 + x.count(12), 10);
        go(x, 2);
        due("both are HALTED ahead of the POINT", thread(x, 0, 2) + thread(x, 1, 2) + x.count(12), 2);
        go(x, 1);
        due("DONE", x.count(12), 1);
        due("none more", x.go(1), 0);
        due("TURNS", x.count(1), 10);
    }

    /** Promise 6, Terms 2: "So many ALARMS one behind another without a POINT as tries: it is DOWN, no TURNS come any more." */
    static void promise06_down() {
        TwinThreads x = told("tries 2;" + STORY);
        for (int alarms = 1; alarms <= 2; alarms++) {
            due("DOWN ahead of ALARM " + alarms, x.count(13), 0);
            flip(x, 0, 5, 7);
            go(x, 13);
            due("ALARMS", x.count(4), alarms);
        }
        due("DOWN", x.count(13), 1);
        due("none more", x.go(300), 0);
        due("next()", x.next(), -2);
        due("TURNS", x.count(1), 26);
    }

    /** Promise 26, Terms 2: "STUCK: of a REGISTER of a THREAD a bit that is as it was told whatever comes" */
    static void promise26_whateverComes() {
        TwinThreads x = told(STORY);
        stick(x, 0, 1, 0, true);
        due("at once", x.register(0, 1), 1);
        go(x, 2);
        due("behind a set", x.register(0, 1), 3);
        due("of the other THREAD", x.register(1, 1), 2);
        flip(x, 0, 1, 0);
        due("behind a FLIP", x.register(0, 1), 3);
        turns(x, 1, 0, 1, 0, 1, 13);
        due("going back", x.register(0, 1), 1);
        due("the other THREAD, going back", x.register(1, 1), 0);
        due("till it is DOWN", x.go(300), 16);
        due("ALARMS", x.count(3), 3);
    }

    /** Promise 26: "A bit 0 .. 31 of a REGISTER of the LEADER (0), the TRAILER (1) is STUCK: true; false: no such ones." */
    static void promise26_ofBoth() {
        TwinThreads x = told(STORY);
        stick(x, 1, 7, 31, true);
        stick(x, 0, 6, 0, true);
        stick(x, 0, 5, 0, false);
        due("the TRAILER's", x.register(1, 7), MIN);
        due("the LEADER's", x.register(0, 6), 1);
        due("those of the other THREAD", x.register(0, 7) + x.register(1, 6), 0);
        due("bits that are STUCK", x.count(17), 3);
        due("no such THREAD", x.stick(2, 0, 0, true), false);
        due("bits that are STUCK", x.count(17), 3);
    }

    /**
     * Promise 7, Terms 2: "FLIP of a bit 0 .. 31, by sorts: 0 a REGISTER of the LEADER, 1 of the TRAILER, 2 a FLOAT of the
     * LEADER, 3 of the TRAILER, 4 the PLACE of the LEADER, 5 of the TRAILER (bits 0 .. 5; the number is 0), 6 the ADDRESS of
     * one of LOADS by its number from the first on (bits 0 .. 4), 7 its word, 8 one of BRANCHES (bit 0), 9 the LEADER's ADDRESS
     * of one of HELD (bits 0 .. 5), 10 its word, 11 the TRAILER's ADDRESS of one that is COMPARED (bits 0 .. 5), 12 its word."
     */
    static void promise07_sorts() {
        TwinThreads x = told(HANDED);
        go(x, 9);
        flip(x, 8, 1, 0);
        shown(x, 1, new int[][] {{1, 0}, {1, 0}});
        flip(x, 8, 1, 0);
        shown(x, 1, new int[][] {{1, 0}, {0, 0}});
        go(x, 3);
        int[][] flips = {{0, 5, 4}, {1, 5, 3}, {2, 1, 2}, {3, 1, 1}, {4, 0, 4}, {5, 0, 5}, {6, 0, 1}, {7, 0, 4}, {9, 1, 5},
            {10, 1, 31}, {11, 0, 5}, {12, 0, 0}};
        for (int[] f : flips) {
            flip(x, f[0], f[1], f[2]);
        }
        due("a REGISTER of the LEADER", x.register(0, 5), 16);
        due("a REGISTER of the TRAILER", x.register(1, 5), 8);
        due("a FLOAT of the LEADER", x.real(0, 1), 4);
        due("a FLOAT of the TRAILER", x.real(1, 1), 2);
        due("the PLACE of the LEADER", thread(x, 0, 0), 7 ^ 16);
        due("the PLACE of the TRAILER", thread(x, 1, 0), 5 ^ 32);
        shown(x, 0, new int[][] {{1, 21}});
        shown(x, 2, new int[][] {{3, 5, 1, 35, 4}, {0, 6 | MIN, 0, 0, 0}});
    }

    /** Promise 4: "Of the latest text() that was not -2, what 0: its FAULT (0), 1: its place (NONE without)." */
    static void promise04_ofTheLatest() {
        TwinThreads x = new TwinThreads();
        due("text()", Check.tell(x, "halt;halt"), -1);
        due("its FAULT", x.fault(0), 1);
        due("its place", x.fault(1), 9);
        due("text()", Check.tell(x, "halt;halt;"), 2);
        due("no FAULT", x.fault(0), 0);
        due("no place", x.fault(1), -1);
        due("text()", Check.tell(x, "halt;set 8 1;"), -1);
        due("its FAULT", x.fault(0), 2);
        due("its place", x.fault(1), 9);
    }

    /** Promise 5: "Where W is, by its letters, 5 bits each [...]: the number of an INSTRUCTION" */
    static void promise05_where() {
        TwinThreads x = told("at b;set 0 1;at ab;set 0 2;set 0 3;at zzzzzz;at aaaaab;halt;at c;");
        due("b", x.named(2 << 25), 0);
        due("ab", x.named(1 << 25 | 2 << 20), 1);
        due("zzzzzz", x.named(26 << 25 | 26 << 20 | 26 << 15 | 26 << 10 | 26 << 5 | 26), 3);
        due("aaaaab", x.named(1 << 25 | 1 << 20 | 1 << 15 | 1 << 10 | 1 << 5 | 2), 3);
        due("c", x.named(3 << 25), 4);
        due("a", x.named(1 << 25), -1);
    }

    /**
     * Promise 8: "Of the LEADER (0), the TRAILER (1) what 0 its PLACE, 1 its STEPS, 2 whether it is HALTED (1, 0), 3 why it MAY
     * not step (0: it MAY)."
     */
    static void promise08_turnByTurn() {
        TwinThreads x = told(FOUR);
        int[][] due = {{0, 0, 0, 0, 0, 0, 0, 3}, {1, 1, 0, 0, 0, 0, 0, 3}, {2, 2, 0, 0, 0, 0, 0, 0}, {2, 2, 0, 0, 1, 1, 0, 3},
            {3, 3, 0, 1, 1, 1, 0, 0}, {3, 3, 0, 1, 2, 2, 0, 0}, {3, 3, 0, 1, 3, 3, 0, 1}, {3, 0, 0, 0, 3, 0, 0, 3},
            {4, 1, 1, 2, 3, 0, 0, 0}, {4, 1, 1, 2, 4, 1, 1, 2}, {4, 0, 1, 2, 4, 0, 1, 2}};
        for (int turns = 0; turns < due.length; turns++) {
            for (int k = 0; k < 8; k++) {
                due("thread(" + k / 4 + ", " + k % 4 + ") behind " + turns, thread(x, k / 4, k % 4), due[turns][k]);
            }
            due("go(1)", x.go(1), turns < 10 ? 1 : 0);
        }
    }

    /** Promise 9: "A REGISTER of the LEADER (0), the TRAILER (1); 0 for no such ones." */
    static void promise09_allOfBoth() {
        TwinThreads x = told(STORY);
        for (int k = 0; k < 16; k++) {
            flip(x, k / 8, k % 8, k + 1);
        }
        for (int k = 0; k < 16; k++) {
            due("register(" + k / 8 + ", " + k % 8 + ")", x.register(k / 8, k % 8), 2 << k);
        }
        due("register(2, 0)", x.register(2, 0), 0);
        due("register(0, 8)", x.register(0, 8), 0);
    }

    /** Promise 10: "A FLOAT likewise, its bits." */
    static void promise10_allOfBoth() {
        TwinThreads x = told(STORY);
        for (int k = 0; k < 8; k++) {
            flip(x, 2 + k / 4, k % 4, 31 - k);
        }
        for (int k = 0; k < 8; k++) {
            due("real(" + k / 4 + ", " + k % 4 + ")", x.real(k / 4, k % 4), MIN >>> k);
        }
        due("real(2, 0)", x.real(2, 0), 0);
        due("real(0, 4)", x.real(0, 4), 0);
    }

    /** Promise 11: "A word of MEMORY; 0 for no such address." */
    static void promise11_words() {
        StringBuilder text = new StringBuilder();
        for (int address = 31; address >= 0; address--) {
            text.append("data ").append(address).append(' ').append(1000 + address).append(';');
        }
        TwinThreads x = told(text + "set 1 7;store 1 0 9;halt;");
        for (int address = 0; address < 32; address++) {
            due("memory(" + address + ")", x.memory(address), 1000 + address);
        }
        finish(x);
        for (int address = 0; address < 32; address++) {
            due("memory(" + address + ") behind the store", x.memory(address), address == 9 ? 7 : 1000 + address);
        }
        due("memory(32)", x.memory(32), 0);
    }

    /** Promise 12: "The k-th of OUTPUT that is kept, the eldest 0; 0: there are not so many" */
    static void promise12_theEldestFirst() {
        TwinThreads x = told("set 0 5;out 0;set 0 6;out 0;set 0 7;out 0;halt;");
        go(x, 12);
        due("ahead of the POINT", x.output(0), 0);
        go(x, 1);
        int[] due = {5, 6, 7, 0};
        for (int k = 0; k < 4; k++) {
            due("output(" + k + ")", x.output(k), due[k]);
        }
    }

    /**
     * Promise 13: "Of the k-th of LOADS (sort 0), BRANCHES (1), HELD (2) what 0 the ADDRESS (of BRANCHES 1, if it goes to W, else
     * 0), 1 the word (BRANCHES: 0)"
     */
    static void promise13_ofEach() {
        TwinThreads x = told("slack 8 9;data 8 30;set 1 8;load 2 1 0;less 2 1 a;at a;less 1 2 b;at b;store 2 1 4;out 1;halt;");
        go(x, 6);
        shown(x, 0, new int[][] {{8, 30, 0}, {0, 0, 0}});
        shown(x, 1, new int[][] {{0, 0, 0}, {1, 0, 0}, {0, 0, 0}});
        shown(x, 2, new int[][] {{12, 30, 0, 0, 0}, {32, 8, 0, 0, 0}, {0, 0, 0, 0, 0}});
    }

    /**
     * Promise 14: "What the next TURN would be: 0 a STEP of the TRAILER, 1 of the LEADER, 2 a POINT that passes, 10 and the
     * ALARM's number: an ALARM; -2: none comes."
     */
    static void promise14_turnByTurn() {
        turns(told(FOUR), 1, 1, 0, 1, 0, 0, 2, 1, 0, 2, -2);
        TwinThreads x = told(FOUR);
        turns(x, 1, 1);
        flip(x, 0, 7, 7);
        turns(x, 0, 1, 0, 0, 14, 1, 1, 0, 1, 0, 0, 2, 1, 0, 2, -2);
    }

    /**
     * Promise 15: "Of the k-th latest ALARM (0 the latest; 8 are kept) what 0 which, 1 the TURN by which it came (from 1 on),
     * 2 STEPS of the LEADER, 3 of the TRAILER ahead of that TURN."
     */
    static void promise15_three() {
        TwinThreads x = told("tries 9;" + STORY);
        flip(x, 0, 5, 7);
        go(x, 13);
        flip(x, 1, 0, 0);
        go(x, 4);
        flip(x, 4, 0, 0);
        go(x, 8);
        int[][] due = {{3, 25, 4, 3}, {1, 17, 2, 1}, {4, 13, 6, 6}, {-1, -1, -1, -1}};
        for (int k = 0; k < 4; k++) {
            for (int what = 0; what < 4; what++) {
                due("alarm(" + k + ", " + what + ")", x.alarm(k, what), due[k][what]);
            }
        }
    }

    /**
     * Promise 16: "Of PLAIN behind n STEPS 0 .. 999 (as far as they come) what 0 its PLACE, 1 whether it is HALTED (1, 0), 2 how
     * many STEPS it did, 3 how many came to OUTPUT. NONE: no such ones."
     */
    static void promise16_stepByStep() {
        TwinThreads x = told(STORY);
        int[][] due = {{0, 0, 0, 0}, {1, 0, 1, 0}, {2, 0, 2, 0}, {3, 0, 3, 0}, {4, 0, 4, 0}, {6, 0, 5, 0}, {7, 1, 6, 1}, {7, 1, 6, 1}};
        for (int n = 0; n < 8; n++) {
            for (int what = 0; what < 4; what++) {
                due("plain(" + n + ", " + what + ")", x.plain(n, what), due[n][what]);
                due("plain(1000, " + what + ")", x.plain(1000, what), -1);
            }
        }
    }

    /** Promise 17: "Of PLAIN behind n STEPS 0 .. 999 a REGISTER (sort 0), a FLOAT's bits (1), a word of its memory (2), the k-th of its OUTPUT" */
    static void promise17_sorts() {
        TwinThreads x = told("data 6 4;set 1 7;real 2 1;out 1;store 1 0 5;load 3 0 6;out 3;halt;");
        int[][] due = {{0, 0, 0, 4, 0, 0}, {7, 0, 0, 4, 0, 0}, {7, 0x40E00000, 0, 4, 0, 0}, {7, 0x40E00000, 0, 4, 7, 0},
            {7, 0x40E00000, 7, 4, 7, 0}, {7, 0x40E00000, 7, 4, 7, 0}, {7, 0x40E00000, 7, 4, 7, 4}, {7, 0x40E00000, 7, 4, 7, 4}};
        int[][] asked = {{0, 1}, {1, 2}, {2, 5}, {2, 6}, {3, 0}, {3, 1}};
        for (int n = 0; n < 8; n++) {
            for (int k = 0; k < 6; k++) {
                due("plainOf(" + n + ", " + asked[k][0] + ", " + asked[k][1] + ")", x.plainOf(n, asked[k][0], asked[k][1]), due[n][k]);
            }
        }
    }

    /** Promise 18: "How many STEPS of PLAIN have been compared (up to the last POINT, from the beginning on)." */
    static void promise18_atEachPoint() {
        TwinThreads x = told(FOUR);
        int[] due = {0, 0, 0, 0, 0, 0, 0, 3, 3, 3, 4};
        for (int turns = 0; turns < due.length; turns++) {
            due("compared() behind " + turns, x.compared(), due[turns]);
            due("go(1)", x.go(1), turns < 10 ? 1 : 0);
        }
        due("as many as PLAIN has", x.compared(), x.plain(999, 2));
    }

    /**
     * Promise 19, Terms 3: "SHOT: if a bit flipped now: after how many TURNS an ALARM comes, if no POINT passes ahead of it;
     * which one."
     */
    static void promise19_ofEachSort() {
        TwinThreads x = told(STORY);
        int[][] due = {{0, 0, 0, 4, 1}, {1, 0, 0, 4, 1}, {0, 5, 7, 13, 4}, {1, 5, 7, 13, 4}, {0, 1, 0, -2, -2}, {1, 3, 31, -2, -2},
            {2, 3, 31, 13, 4}, {3, 0, 0, 13, 4}, {4, 0, 0, 8, 3}, {5, 0, 0, 7, 3}, {6, 0, 0, -1, -1}};
        for (int[] d : due) {
            due("TURNS of a SHOT of sort " + d[0], x.shot(d[0], d[1], d[2], 0), d[3]);
            due("which ALARM", x.shot(d[0], d[1], d[2], 1), d[4]);
        }
        due("no TURN went by", x.count(1), 0);
        for (int[] d : due) {
            TwinThreads y = told(STORY);
            due("the FLIP itself", y.flip(d[0], d[1], d[2]), d[3] != -1);
            y.go(Math.max(d[3], 0));
            due("the ALARM itself", y.alarm(0, 0), d[3] > 0 ? d[4] : -1);
            due("its TURN", y.alarm(0, 1), d[3] > 0 ? d[3] : -1);
        }
    }

    /** Promise 20: "Of how many of the 256 bits of REGISTERS of the LEADER (0), the TRAILER (1) a SHOT would bring an ALARM; NONE: no such THREAD." */
    static void promise20_fiveOfEight() {
        TwinThreads x = told(STORY);
        due("matters(0), REGISTERS 1 to 3 are laid anew", x.matters(0), 5 * 32);
        due("matters(1)", x.matters(1), 5 * 32);
        due("matters(2)", x.matters(2), -1);
        go(x, 5);
        due("matters(0) behind the LEADER's add", x.matters(0), 256);
        due("matters(1) ahead of the TRAILER's add", x.matters(1), 7 * 32);
    }

    /** Promise 21: "LONG by a span 1 .. 40 (all else as told); -2: not in 999; NONE: no such span." */
    static void promise21_asGone() {
        TwinThreads x = told(STORY);
        for (int span = 1; span <= 40; span++) {
            TwinThreads y = told("span " + span + ";" + STORY);
            int turns = y.go(300);
            due("TURNS by span " + span, turns, 12 + (5 + span) / span);
            due("longBy(" + span + ")", x.longBy(span), turns);
            due("longBy(" + span + ") asked of the other", y.longBy(span), turns);
        }
        due("longBy(41)", x.longBy(41), -1);
        due("of no end", told("at a;jump a;").longBy(1), -2);
    }

    /** Promise 21, Terms 3: "LONG: how many TURNS from FRESH on till it is DONE, 999 at most." */
    static void promise21_till999() {
        due("two for each STEP and the POINTS", told(rounds(109, 1)).longBy(40), 667);
        due("by span 2", told(rounds(109, 1)).longBy(2), 823);
        due("998", told(rounds(132, 2)).longBy(2), 998);
        due("1000", told(rounds(132, 3)).longBy(2), -2);
        due("999", told(rounds(164, 0)).longBy(40), 999);
        due("by span 1", told("set 0 1;set 0 2;halt;").longBy(1), 6);
    }

    /** Promise 22: "LONG by a span 1 .. 40, if with TURN t 1 .. 200 an ALARM came (7, by nothing), in place of it" */
    static void promise22_eachTurn() {
        TwinThreads x = told(STORY);
        for (int t = 1; t <= 200; t++) {
            due("longWith(8, " + t + ")", x.longWith(8, t), t > 13 ? 13 : t + 13);
        }
        due("no ALARM came to the PAIR", x.count(3), 0);
        due("longWith(0, 1)", x.longWith(0, 1), -1);
        due("of one try", told("tries 1;" + STORY).longWith(8, 13), -2);
    }

    /** Promise 24: "The span 1 .. 40 by which longWith() for a TURN t 1 .. 200 is least, the first" */
    static void promise24_byHand() {
        TwinThreads x = told(STORY);
        due("bestSpan(1)", x.bestSpan(1), 6);
        due("bestSpan(13)", x.bestSpan(13), 5);
        due("bestSpan(14)", x.bestSpan(14), 6);
        due("bestSpan(200)", x.bestSpan(200), 6);
        int[] by13 = {19, 18, 20, 18, 16, 26, 26};
        for (int span = 1; span <= by13.length; span++) {
            due("longWith(" + span + ", 13)", x.longWith(span, 13), by13[span - 1]);
        }
    }

    /** Promise 25: "The most TURNS that such a SHOT as in matters() takes; -2: none brings an ALARM; NONE: no such THREAD." */
    static void promise25_upToThePoint() {
        TwinThreads x = told(STORY);
        due("slowest(0)", x.slowest(0), 13);
        due("slowest(1)", x.slowest(1), 13);
        go(x, 10);
        due("slowest(0) three TURNS ahead of the POINT", x.slowest(0), 3);
        finish(x);
        due("slowest(1) when DONE", x.slowest(1), -2);
        due("slowest(2)", x.slowest(2), -1);
    }

    /**
     * Promise 28: "How many of the PLACE, REGISTERS, FLOATS of the LEADER (0), the TRAILER (1) aren't as one THREAD alone has
     * them that goes from the last POINT on, with a memory as MEMORY is, by as many STEPS as that one has"
     */
    static void promise28_oneByOne() {
        TwinThreads x = told(STORY);
        go(x, 6);
        due("strays(0)", x.strays(0), 0);
        flip(x, 0, 5, 0);
        due("a REGISTER", x.strays(0), 1);
        flip(x, 2, 1, 3);
        due("a FLOAT, too", x.strays(0), 2);
        flip(x, 4, 0, 0);
        due("the PLACE, too", x.strays(0), 3);
        due("strays(1)", x.strays(1), 0);
        flip(x, 1, 7, 1);
        due("of the TRAILER", x.strays(1), 1);
        TwinThreads y = told(STORY);
        go(y, 3);
        flip(y, 7, 0, 0);
        int[] due = {0, 1, 1, 2};
        for (int turns = 0; turns < 4; turns++) {
            due("the TRAILER by another word, " + turns + " TURNS on", y.strays(1), due[turns]);
            due("the LEADER", y.strays(0), 0);
            go(y, 1);
        }
    }

    /** Promise 29, Terms 3: "MEAN: all AHEAD behind each TURN, added, by how many TURNS there were, both as floats (each nearest; nearest)." */
    static void promise29_turnByTurn() {
        TwinThreads x = told(FOUR);
        int[] sums = {1, 3, 4, 6, 7, 7, 7, 8, 8, 8};
        for (int turns = 1; turns <= sums.length; turns++) {
            go(x, 1);
            due("mean() behind " + turns, x.mean(), Float.floatToIntBits((float) sums[turns - 1] / (float) turns));
        }
    }

    /** Promise 29: "MEAN, its bits; -2: no TURN was." */
    static void promise29_itsBits() {
        TwinThreads x = told(STORY);
        due("ahead of the first TURN", x.mean(), -2);
        finish(x);
        due("six by thirteen", x.mean(), Float.floatToIntBits(6f / 13f));
    }

    /** Promise 30: "Of JOURNAL the k-th (0 the eldest that is in it) what 0 its ADDRESS (32 of an output), 1 its word, 2 of which POINT it left" */
    static void promise30_twoThatLeft() {
        left(told(STORY), new int[][] {{4, 22, 1}, {32, 22, 1}, {0, 0, 0}});
        left(told("span 4;" + STORY), new int[][] {{4, 22, 1}, {32, 22, 2}, {0, 0, 0}});
        left(told("span 3;" + STORY), new int[][] {{4, 22, 2}, {32, 22, 2}, {0, 0, 0}});
    }

    private static void left(TwinThreads x, int[][] due) {
        due("ahead of the POINTS", x.left(0, 1), 0);
        finish(x);
        for (int k = 0; k < due.length; k++) {
            for (int what = 0; what < 3; what++) {
                due("left(" + k + ", " + what + ")", x.left(k, what), due[k][what]);
            }
        }
    }

    /** Promise 31: "How much the JOURNAL takes." */
    static void promise31_eightOrTwelve() {
        TwinThreads x = told("span 2;set 0 1;store 0 0 1;store 0 0 2;out 0;store 0 0 3;store 0 0 4;halt;");
        int[] due = {0, 8, 3 * 12, 5 * 12};
        for (int points = 0; points <= 3; points++) {
            due("takes() behind " + points + " POINTS", x.takes(), due[points]);
            due("go(5)", x.go(5), points < 3 ? 5 : 0);
        }
    }

    /**
     * Promise 32, Terms 3: "DRAW: the last number (at first the seed) times 1103515245, and 12345 more, without what is above 31
     * bits, is the next one; this by 65536 (rounded down), modulo what is said, is drawn. BY CHANCE, n times from FRESH on: TURNS
     * (a DRAW modulo 50) go by, then a sort (a DRAW modulo 4), a number (a DRAW modulo 8), a bit (a DRAW modulo 32) flips"
     */
    static void promise32_fromSeed0() {
        // Drawn from 0 on: 0 0 4 5 (a bit of the LEADER), 48 3 5 29, 22 2 5 12, 9 2 7 19 (no such FLOATS), 18 1 4 29 (of the TRAILER).
        TwinThreads x = told("span 40;" + times(12, "set 1 1;") + "halt;");
        int[][] due = {{1, 1, 1}, {1, 2, 1}, {1, 3, 1}, {1, 4, 1}, {2, 5, 2}};
        for (int n = 1; n <= 5; n++) {
            for (int what = 0; what < 3; what++) {
                due("chance(0, " + n + ", " + what + ")", x.chance(0, n, what), due[n - 1][what]);
                due("chance(-1, " + n + ", " + what + ")", x.chance(-1, n, what), due[n - 1][what]);
            }
        }
        due("the next seed but three", x.chance(1449466924, 4, 2), 1);
    }

    /**
     * Promise 32: "BY CHANCE n 1 .. 5 from a seed 0 .. 2147483647 on (-1: that of the TEXT), what 0 in how many an ALARM came, 1 in
     * how many it is DONE then, 2 how many ALARMS in all. NONE: no such ones."
     */
    static void promise32_whats() {
        TwinThreads x = told("tries 1;span 40;" + times(12, "set 1 1;") + "halt;");
        due("in how many an ALARM came", x.chance(0, 5, 0), 2);
        due("in how many it is DONE", x.chance(0, 5, 1), 3);
        due("how many ALARMS", x.chance(0, 5, 2), 2);
        due("no such what", x.chance(0, 5, 3), -1);
        due("no TURN went by", x.count(1), 0);
    }

    /** Promise 33: "An IMAGE is kept (in place of one ahead): how many TURNS there were." */
    static void promise33_turns() {
        TwinThreads x = told(STORY);
        due("keep()", x.keep(), 0);
        go(x, 4);
        due("keep()", x.keep(), 4);
        go(x, 9);
        due("back()", x.back(), 4);
        due("TURNS", x.count(1), 4);
    }

    /** Promise 34: "All is as in the IMAGE (it stays): how many TURNS; NONE: there is none." */
    static void promise34_howManyTurns() {
        TwinThreads x = told(STORY);
        due("back() without one", x.back(), -1);
        go(x, 7);
        TwinThreads y = told(STORY);
        go(y, 7);
        due("keep()", x.keep(), 7);
        finish(x);
        due("back()", x.back(), 7);
        same("behind back()", seen(x), seen(y));
        go(x, 1);
        due("back() once more", x.back(), 7);
    }

    /**
     * Promise 35: "0 INSTRUCTIONS, 1 TURNS, 2 POINTS that passed, 3 ALARMS, 4 ALARMS since the last POINT, 5 AHEAD, 6 the greatest
     * AHEAD so far, 7 how many are in LOADS, 8 BRANCHES, 9 HELD, 10 how many left to MEMORY, 11 came to OUTPUT (those that went,
     * too), 12 whether it is DONE, 13 DOWN (1, 0), 14 how many are in JOURNAL, 15 TURNS that were STEPS of the LEADER, 16 of the
     * TRAILER (those that brought an ALARM, too), 17 bits that are STUCK. NONE for another what."
     */
    static void promise35_allOfThem() {
        TwinThreads x = told(STORY);
        counts(x, 8, 0, 0, 0, 0, 0, 0, 0, 0, 0, 0, 0, 0, 0, 0, 0, 0, 0, -1);
        go(x, 7);
        counts(x, 8, 7, 0, 0, 0, 1, 1, 0, 0, 1, 0, 0, 0, 0, 0, 4, 3, 0, -1);
        finish(x);
        counts(x, 8, 13, 1, 0, 0, 0, 1, 0, 0, 0, 1, 1, 1, 0, 2, 6, 6, 0, -1);
        TwinThreads down = told(STORY);
        stick(down, 0, 1, 0, true);
        down.go(300);
        counts(down, 8, 24, 0, 3, 3, 0, 1, 0, 0, 0, 0, 0, 0, 1, 0, 12, 12, 1, -1);
        TwinThreads ahead = told(HANDED);
        go(ahead, 7);
        counts(ahead, 8, 7, 0, 0, 0, 7, 7, 3, 2, 2, 0, 0, 0, 0, 0, 7, 0, 0, -1);
    }

    private static void counts(TwinThreads x, int... due) {
        for (int what = 0; what < due.length; what++) {
            due("count(" + what + ")", x.count(what), due[what]);
        }
    }
}
