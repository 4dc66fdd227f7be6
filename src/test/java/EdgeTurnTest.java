/** Promises 6 to 15 and 35 with what part 2 of the Terms says of THE PAIR: a test for each boundary. */
final class EdgeTurnTest extends Edge {
    // Six STEPS of the LEADER lay two in each of LOADS, BRANCHES, HELD; the TRAILER goes then.
    private static final String TWO_EACH = "slack 8 9;queues 8 8 8;load 1 0 1;load 2 0 2;zero 0 a;at a;zero 0 b;at b;"
        + "store 0 0 3;out 0;halt;";
    private static final int[] WRONG_BITS = {-1, 32, 33, 64, MIN, MAX};

    public static void main(String[] args) {
        runAll(EdgeTurnTest.class, args);
    }

    private static TwinThreads loop() {
        return told("at a;set 0 1;jump a;");
    }

    /** Promise 6: "n 0 .. 300 TURNS" (none, one, all of them) */
    static void promise06_upTo300() {
        TwinThreads x = loop();
        due("go(0)", x.go(0), 0);
        due("count(1)", x.count(1), 0);
        due("go(1)", x.go(1), 1);
        due("count(1)", x.count(1), 1);
        due("go(299)", x.go(299), 299);
        due("go(300)", x.go(300), 300);
        due("count(1)", x.count(1), 600);
    }

    /** Promise 6: "n 0 .. 300 TURNS" (all of them by each of the 512 calls that an object is used for) */
    static void promise06_manyCalls() {
        TwinThreads x = new TwinThreads();
        x.feed(0x61742061, 0x3B736574, 0x20302031, 0x3B6A756D, 0x7020613B);
        due("text(20)", x.text(20), 3);
        for (int calls = 3; calls < 511; calls++) {
            due("call " + calls, x.go(300), 300);
        }
        due("call 511", x.count(2), 508 * 300 / 17);
        due("call 512", x.count(1), 508 * 300);
    }

    /** Promise 6: "NONE: no such n" (and no TURN comes) */
    static void promise06_noSuchN() {
        TwinThreads x = loop();
        for (int n : new int[] {-1, 301, 302, 600, MIN, MAX}) {
            due("go(" + n + ")", x.go(n), -1);
        }
        due("count(1)", x.count(1), 0);
        TwinThreads done = new TwinThreads();
        finish(done);
        due("go(301) when DONE", done.go(301), -1);
        due("go(-1) when DONE", done.go(-1), -1);
    }

    /** Promise 6: "as far as they come: how many" (till it is DONE) */
    static void promise06_tillDone() {
        due("one less", told("set 0 1;halt;").go(2), 2);
        due("as many", told("set 0 1;halt;").go(3), 3);
        TwinThreads x = told("set 0 1;halt;");
        due("one more", x.go(4), 3);
        due("none more", x.go(1), 0);
        due("none of none", x.go(0), 0);
        due("none of 300", x.go(300), 0);
        due("count(1)", x.count(1), 3);
    }

    /** Promise 6: "as far as they come: how many" (till it is DOWN) */
    static void promise06_tillDown() {
        TwinThreads x = told("tries 2;out 0;halt;");
        stick(x, 0, 0, 0, true);
        due("go(300)", x.go(300), 4);
        due("DOWN", x.count(13), 1);
        due("none more", x.go(300), 0);
        due("count(1)", x.count(1), 4);
    }

    /** Promise 7: "false: no such sort" */
    static void promise07_noSuchSort() {
        TwinThreads x = told(TWO_EACH);
        go(x, 11);
        for (int sort : new int[] {-1, 13, 14, 16, 32, MIN, MAX}) {
            noFlip(x, sort, 0, 0);
        }
        for (int sort = 0; sort < 13; sort++) {
            due("sort " + sort, x.flip(sort, 0, 0), sort < 6 || sort > 8);
        }
    }

    /** Promise 7: "false: no such sort, number, bit" (nothing is changed then) */
    static void promise07_nothingChanged() {
        TwinThreads x = told("set 0 1;halt;");
        noFlip(x, 0, 8, 0);
        noFlip(x, 0, 0, 32);
        noFlip(x, 4, 0, 6);
        noFlip(x, 5, 1, 0);
        noFlip(x, 2, 4, 0);
        noFlip(x, 9, 0, 0);
        for (int k = 0; k < 8; k++) {
            due("register " + k, x.register(0, k) | x.register(1, k) | x.real(0, k) | x.real(1, k), 0);
        }
        turns(x, 1, 0, 2, -2);
    }

    private static void ofThreads(int sort, int most) {
        TwinThreads x = told("halt;");
        int which = sort & 1;
        for (int number = 0; number <= most; number++) {
            flip(x, sort, number, 0);
            flip(x, sort, number, 31);
            flip(x, sort, number, number + 1);
            int due = MIN | 1 | 2 << number;
            due("as flipped", sort < 2 ? x.register(which, number) : x.real(which, number), due);
            due("not of the other", sort < 2 ? x.register(1 - which, number) : x.real(1 - which, number), 0);
            due("not of the other kind", sort < 2 ? x.real(which, number) : x.register(which, number), 0);
            flip(x, sort, number, 31);
            due("flipped again", sort < 2 ? x.register(which, number) : x.real(which, number), due & MAX);
            for (int bit : WRONG_BITS) {
                noFlip(x, sort, number, bit);
            }
        }
        for (int number : new int[] {-1, most + 1, 8, 16, 32, MIN, MAX}) {
            noFlip(x, sort, number, 0);
        }
        for (int number = 0; number <= most; number++) {
            due("those refused change nothing", sort < 2 ? x.register(which, number) : x.real(which, number), 1 | 2 << number);
        }
    }

    /** Promise 7, Terms 2: "0 a REGISTER of the LEADER" (0 .. 7, bits 0 .. 31) */
    static void promise07_registerOfTheLeader() {
        ofThreads(0, 7);
    }

    /** Promise 7, Terms 2: "1 of the TRAILER" (0 .. 7, bits 0 .. 31) */
    static void promise07_registerOfTheTrailer() {
        ofThreads(1, 7);
    }

    /** Promise 7, Terms 2: "2 a FLOAT of the LEADER" (0 .. 3, bits 0 .. 31) */
    static void promise07_floatOfTheLeader() {
        ofThreads(2, 3);
    }

    /** Promise 7, Terms 2: "3 of the TRAILER" (0 .. 3, bits 0 .. 31) */
    static void promise07_floatOfTheTrailer() {
        ofThreads(3, 3);
    }

    private static void ofPlaces(int sort) {
        TwinThreads x = told("halt;");
        int place = 0;
        for (int bit = 0; bit < 6; bit++) {
            flip(x, sort, 0, bit);
            place |= 1 << bit;
            due("PLACE", thread(x, sort - 4, 0), place);
            due("PLACE of the other", thread(x, 5 - sort, 0), 0);
        }
        flip(x, sort, 0, 5);
        due("flipped again", thread(x, sort - 4, 0), 31);
        for (int bit : WRONG_BITS) {
            noFlip(x, sort, 0, bit);
        }
        noFlip(x, sort, 0, 6);
        for (int number : new int[] {-1, 1, 7, MIN, MAX}) {
            noFlip(x, sort, number, 0);
        }
        due("those refused change nothing", thread(x, sort - 4, 0), 31);
    }

    /** Promise 7, Terms 2: "4 the PLACE of the LEADER, 5 of the TRAILER (bits 0 .. 5; the number is 0)" (4) */
    static void promise07_placeOfTheLeader() {
        ofPlaces(4);
    }

    /** Promise 7, Terms 2: "4 the PLACE of the LEADER, 5 of the TRAILER (bits 0 .. 5; the number is 0)" (5) */
    static void promise07_placeOfTheTrailer() {
        ofPlaces(5);
    }

    /** Flips each bit of both that are in the queue; the part is what queued() tells them by. */
    private static void ofQueues(TwinThreads x, int sort, int queue, int part, int bits, int there) {
        for (int number = 0; number < there; number++) {
            int was = x.queued(queue, number, part);
            int other = x.queued(queue, 1 - number, part);
            int flipped = 0;
            for (int bit = 0; bit < bits; bit++) {
                flip(x, sort, number, bit);
                flipped |= 1 << bit;
                due("number " + number + " of sort " + sort, x.queued(queue, number, part), was ^ flipped);
            }
            due("the other one", x.queued(queue, 1 - number, part), other);
            for (int bit = 0; bit < bits; bit++) {
                flip(x, sort, number, bit);
            }
            due("flipped again", x.queued(queue, number, part), was);
            noFlip(x, sort, number, bits);
            for (int bit : WRONG_BITS) {
                noFlip(x, sort, number, bit);
                due("those refused change nothing", x.queued(queue, number, part), was);
            }
        }
        int first = x.queued(queue, 0, part);
        for (int number : new int[] {-1, there, there + 1, 8, 16, MIN, MAX}) {
            noFlip(x, sort, number, 0);
            due("those refused change nothing", x.queued(queue, 0, part), first);
        }
    }

    private static TwinThreads twoEach(int turns) {
        TwinThreads x = told(TWO_EACH);
        go(x, turns);
        return x;
    }

    /** Promise 7, Terms 2: "6 the ADDRESS of one of LOADS by its number from the first on (bits 0 .. 4)" */
    static void promise07_addressOfLoads() {
        ofQueues(twoEach(6), 6, 0, 0, 5, 2);
        ofQueues(twoEach(7), 6, 0, 0, 5, 1);
        ofQueues(twoEach(0), 6, 0, 0, 5, 0);
    }

    /** Promise 7, Terms 2: "7 its word" */
    static void promise07_wordOfLoads() {
        ofQueues(twoEach(6), 7, 0, 1, 32, 2);
        ofQueues(twoEach(7), 7, 0, 1, 32, 1);
        ofQueues(twoEach(0), 7, 0, 1, 32, 0);
    }

    /** Promise 7, Terms 2: "by its number from the first on" (the first is another one when one went) */
    static void promise07_numberFromTheFirstOn() {
        TwinThreads x = twoEach(7);
        flip(x, 7, 0, 3);
        due("the one that is the first now", x.queued(0, 0, 1), 8);
        due("its ADDRESS", x.queued(0, 0, 0), 2);
        go(x, 1);
        due("the TRAILER takes its word", x.register(1, 2), 8);
        due("the LEADER has its own", x.register(0, 2), 0);
    }

    /** Promise 7, Terms 2: "8 one of BRANCHES (bit 0)" */
    static void promise07_branch() {
        ofQueues(twoEach(6), 8, 1, 0, 1, 2);
        ofQueues(twoEach(9), 8, 1, 0, 1, 1);
        ofQueues(twoEach(0), 8, 1, 0, 1, 0);
    }

    /** Promise 7, Terms 2: "9 the LEADER's ADDRESS of one of HELD (bits 0 .. 5)" */
    static void promise07_leadersAddress() {
        ofQueues(twoEach(6), 9, 2, 0, 6, 2);
        ofQueues(twoEach(12), 9, 2, 0, 6, 2);
        ofQueues(twoEach(5), 9, 2, 0, 6, 1);
        ofQueues(twoEach(4), 9, 2, 0, 6, 0);
    }

    /** Promise 7, Terms 2: "10 its word" */
    static void promise07_leadersWord() {
        ofQueues(twoEach(6), 10, 2, 1, 32, 2);
        ofQueues(twoEach(5), 10, 2, 1, 32, 1);
        ofQueues(twoEach(4), 10, 2, 1, 32, 0);
    }

    /** Promise 7, Terms 2: "11 the TRAILER's ADDRESS of one that is COMPARED (bits 0 .. 5)" */
    static void promise07_trailersAddress() {
        ofQueues(twoEach(12), 11, 2, 3, 6, 2);
        ofQueues(twoEach(11), 11, 2, 3, 6, 1);
        ofQueues(twoEach(10), 11, 2, 3, 6, 0);
    }

    /** Promise 7, Terms 2: "12 its word" (of one that is COMPARED) */
    static void promise07_trailersWord() {
        ofQueues(twoEach(12), 12, 2, 4, 32, 2);
        ofQueues(twoEach(11), 12, 2, 4, 32, 1);
        ofQueues(twoEach(10), 12, 2, 4, 32, 0);
    }

    /** Promise 7: "A FLIP: true" (when no TURNS come any more, too) */
    static void promise07_whenDone() {
        TwinThreads x = told("halt;");
        finish(x);
        flip(x, 0, 7, 31);
        due("register(0, 7)", x.register(0, 7), MIN);
        due("still DONE", x.go(5), 0);
    }

    /** Promise 8: "IndexOutOfBoundsException: no such THREAD" */
    static void promise08_noSuchThread() {
        TwinThreads x = loop();
        for (int which : new int[] {-1, 2, 3, MIN, MAX}) {
            for (int what = 0; what < 4; what++) {
                due("thread(" + which + ", " + what + ")", thread(x, which, what), NO_THREAD);
            }
        }
        due("count(1)", x.count(1), 0);
    }

    /** Promise 8: "NoSuchElementException: no such what" */
    static void promise08_noSuchWhat() {
        TwinThreads x = loop();
        for (int what : new int[] {-1, 4, 5, MIN, MAX}) {
            due("thread(0, " + what + ")", thread(x, 0, what), NO_WHAT);
            due("thread(1, " + what + ")", thread(x, 1, what), NO_WHAT);
        }
    }

    /** Promise 8, Terms 4: "IndexOutOfBoundsException ahead of NoSuchElementException, both ahead of numbers" */
    static void promise08_indexGoesFirst() {
        TwinThreads x = loop();
        for (int what : new int[] {-1, 4, MIN, MAX}) {
            due("thread(2, " + what + ")", thread(x, 2, what), NO_THREAD);
            due("thread(-1, " + what + ")", thread(x, -1, what), NO_THREAD);
        }
    }

    /** Promise 8: "what 0 its PLACE, 1 its STEPS, 2 whether it is HALTED (1, 0)" (each of its own THREAD) */
    static void promise08_whats() {
        TwinThreads x = told("slack 2 4;set 0 1;set 0 2;halt;");
        go(x, 2);
        due("PLACES", thread(x, 0, 0) * 10 + thread(x, 1, 0), 20);
        due("STEPS", thread(x, 0, 1) * 10 + thread(x, 1, 1), 20);
        due("HALTED", thread(x, 0, 2) * 10 + thread(x, 1, 2), 10);
        go(x, 2);
        due("PLACES", thread(x, 0, 0) * 10 + thread(x, 1, 0), 22);
        due("STEPS", thread(x, 0, 1) * 10 + thread(x, 1, 1), 22);
        due("HALTED", thread(x, 0, 2) * 10 + thread(x, 1, 2), 11);
        go(x, 1);
        due("PLACES behind the POINT", thread(x, 0, 0) * 10 + thread(x, 1, 0), 22);
        due("STEPS behind the POINT", thread(x, 0, 1) * 10 + thread(x, 1, 1), 0);
    }

    /** Promise 8, Terms 2: "1 it has span STEPS" (not with one less) */
    static void promise08_hasSpanSteps() {
        TwinThreads x = told("span 2;set 0 1;set 0 2;set 0 3;halt;");
        go(x, 1);
        due("the LEADER with one less", why(x, 0), 0);
        due("the TRAILER with two less", why(x, 1), 0);
        go(x, 2);
        due("the LEADER", why(x, 0), 1);
        due("the TRAILER with one less", why(x, 1), 0);
        go(x, 1);
        due("the TRAILER", why(x, 1), 1);
        go(x, 1);
        due("the LEADER behind a POINT", why(x, 0), 0);
    }

    /** Promise 8, Terms 2: "2 it is HALTED" (when DONE, too) */
    static void promise08_isHalted() {
        TwinThreads x = told("set 0 1;halt;set 0 2;");
        due("not yet", why(x, 0), 0);
        go(x, 1);
        due("the LEADER", why(x, 0), 2);
        due("the TRAILER not yet", why(x, 1), 0);
        go(x, 1);
        due("the TRAILER", why(x, 1), 2);
        go(x, 1);
        due("both, DONE", why(x, 0) * 10 + why(x, 1), 22);
        TwinThreads y = new TwinThreads();
        due("without INSTRUCTIONS", why(y, 0) * 10 + why(y, 1), 22);
    }

    /** Promise 8, Terms 2: "3 AHEAD is HIGH (LEADER)" (not with one less) */
    static void promise08_aheadIsHigh() {
        for (int high = 1; high <= 9; high++) {
            TwinThreads x = told("span 40;slack 0 " + high + ";" + times(12, "set 0 1;"));
            flip(x, 5, 0, 5);
            for (int ahead = 0; ahead < high; ahead++) {
                due("AHEAD " + ahead + " of " + high, why(x, 0), 0);
                go(x, 1);
            }
            due("AHEAD is HIGH " + high, why(x, 0), 3);
            due("AHEAD", x.count(5), high);
        }
    }

    /** Promise 8, Terms 2: "AHEAD is less than 1" (TRAILER; by a LOW of 0, too) */
    static void promise08_aheadLessThan1() {
        for (String low : new String[] {"slack 0 4;", "slack 1 4;"}) {
            TwinThreads x = told(low + "set 0 1;set 0 2;halt;");
            due("AHEAD 0", why(x, 1), 3);
            go(x, 1);
            due("AHEAD 1", why(x, 1), 0);
            go(x, 1);
            due("AHEAD 0", why(x, 1), 3);
        }
        TwinThreads y = told("span 1;slack 0 4;set 0 1;set 0 2;halt;");
        flip(y, 4, 0, 5);
        due("AHEAD 0, the LEADER MAY not", why(y, 1), 3);
        TwinThreads z = told("queues 1 1 1;slack 0 1;out 0;out 0;halt;");
        go(z, 2);
        due("AHEAD 0, the LEADER MAY not", why(z, 1), 3);
    }

    /** Promise 8, Terms 2: "or less than LOW while the LEADER MAY step (TRAILER)" */
    static void promise08_aheadLessThanLow() {
        for (int low = 1; low <= 8; low++) {
            TwinThreads x = told("span 40;slack " + low + " 9;" + times(20, "set 0 1;"));
            for (int ahead = 0; ahead < low; ahead++) {
                due("AHEAD " + ahead + " of " + low, why(x, 1), 3);
                go(x, 1);
            }
            due("AHEAD is LOW " + low, why(x, 1), 0);
        }
    }

    /** Promise 8, Terms 2: "while the LEADER MAY step" (for each cause that it MAY not, AHEAD 1 is enough) */
    static void promise08_whileTheLeaderMay() {
        TwinThreads span = told("span 3;slack 8 9;" + times(4, "set 0 1;"));
        turns(span, 1, 1, 1, 0, 0, 0, 2);
        TwinThreads halted = told("slack 8 9;set 0 1;set 0 2;halt;");
        turns(halted, 1, 1, 0, 0, 2);
        String[] queues = {"load 0 1 2;", "zero 7 a;at a;", "store 0 0 0;", "out 0;"};
        for (String one : queues) {
            TwinThreads full = told("slack 8 9;queues 1 1 1;" + one + one.replace("7 a;at a", "7 b;at b") + "halt;");
            due("the LEADER MAY", why(full, 0) * 10 + why(full, 1), 3);
            go(full, 1);
            due("full for " + one, why(full, 0) * 10 + why(full, 1), 40);
            turns(full, 0);
        }
    }

    /** Promise 8, Terms 2: "4 what its INSTRUCTION needs is full (LEADER: LOADS for load" (not with one less) */
    static void promise08_loadsFull() {
        TwinThreads x = told("slack 8 9;queues 2 1 1;load 0 1 0;load 0 1 1;load 0 1 2;halt;");
        go(x, 1);
        due("one of two", why(x, 0), 0);
        go(x, 1);
        due("two of two", why(x, 0), 4);
        go(x, 1);
        due("one went", why(x, 0), 0);
    }

    /** Promise 8, Terms 2: "BRANCHES for zero, less, under" (not with one less) */
    static void promise08_branchesFull() {
        for (String one : new String[] {"zero 0", "less 0 1", "under 0 1"}) {
            TwinThreads x = told("slack 8 9;queues 1 2 1;zero 0 a;at a;less 0 1 b;at b;" + one + " c;at c;halt;");
            go(x, 1);
            due("one of two", why(x, 0), 0);
            go(x, 1);
            due("two of two", why(x, 0), 4);
            go(x, 1);
            due("one went", why(x, 0), 0);
        }
    }

    /** Promise 8, Terms 2: "HELD for store, out" (not with one less; those COMPARED are in it, till they LEAVE) */
    static void promise08_heldFull() {
        for (String one : new String[] {"store 0 1 2;", "out 0;"}) {
            TwinThreads x = told("slack 8 9;queues 1 1 2;out 0;store 0 1 2;" + one + "halt;");
            go(x, 1);
            due("one of two", why(x, 0), 0);
            go(x, 1);
            due("two of two", why(x, 0), 4);
            go(x, 2);
            due("both COMPARED", why(x, 0), 4);
            turns(x, 2);
            due("both left", why(x, 0), 0);
        }
    }

    /** Promise 8, Terms 2: "what its INSTRUCTION needs" (what is full matters to no other INSTRUCTION) */
    static void promise08_needsNothing() {
        String[] free = {"set 0 1;", "add 0 1 2;", "sub 0 1 2;", "mul 0 1 2;", "xor 0 1 2;", "real 0 1;", "whole 0 1;",
            "bits 0 1;", "plus 0 1 2;", "times 0 1 2;", "jump w;"};
        String full = "slack 8 9;queues 1 1 1;load 7 6 0;zero 6 a;at a;out 6;";
        for (String one : free) {
            TwinThreads x = told(full + one + "at w;");
            go(x, 3);
            due("all are full at " + one, why(x, 0), 0);
        }
        String[] needs = {"load 0 1 2;", "zero 0 w;", "less 0 1 w;", "under 0 1 w;", "store 0 1 2;", "out 0;"};
        String[] others = {"zero 6 a;at a;out 6;", "load 7 6 0;out 6;", "load 7 6 0;out 6;", "load 7 6 0;out 6;",
            "load 7 6 0;zero 6 a;at a;", "load 7 6 0;zero 6 a;at a;"};
        for (int k = 0; k < needs.length; k++) {
            TwinThreads x = told("slack 8 9;queues 1 1 1;" + others[k] + needs[k] + "at w;");
            go(x, 2);
            due("the others are full at " + needs[k], why(x, 0), 0);
            go(x, 1);
        }
    }

    private static void emptyFor(String needs, int bit, int due) {
        TwinThreads x = told("set 0 0;halt;" + needs + "at w;halt;");
        go(x, 1);
        flip(x, 5, 0, bit);
        due("the TRAILER at " + needs, why(x, 1), due);
    }

    /** Promise 8, Terms 2: "or empty (TRAILER: LOADS, BRANCHES likewise" */
    static void promise08_empty() {
        for (String one : new String[] {"load 0 1 2;", "zero 0 w;", "less 0 1 w;", "under 0 1 w;"}) {
            emptyFor(one, 1, 4);
        }
        for (String one : new String[] {"set 0 0;", "real 0 1;", "whole 0 1;", "bits 0 1;", "plus 0 1 2;", "times 0 1 2;",
            "jump w;", "add 0 1 2;", "sub 0 1 2;", "mul 0 1 2;", "xor 0 1 2;"}) {
            emptyFor(one, 1, 0);
        }
        for (String one : new String[] {"load 0 1 2;", "zero 0 w;at w;", "out 0;", "store 0 1 2;"}) {
            TwinThreads y = told(one + "halt;");
            go(y, 1);
            due("one of it: " + one, why(y, 1), 0);
        }
        TwinThreads x = twoEach(6);
        due("LOADS of two", why(x, 1), 0);
        flip(x, 5, 0, 1);
        due("BRANCHES of two", why(x, 1), 0);
        flip(x, 5, 0, 2);
        flip(x, 5, 0, 1);
        due("HELD of two", why(x, 1), 0);
    }

    /** Promise 8, Terms 2: "of HELD those not COMPARED yet)" */
    static void promise08_heldNotCompared() {
        emptyFor("store 0 1 2;", 1, 4);
        emptyFor("out 0;", 1, 4);
        TwinThreads x = told("slack 1 4;store 0 1 0;set 0 0;halt;");
        go(x, 3);
        due("HELD, COMPARED", x.count(9) * 10 + x.queued(2, 0, 2), 11);
        flip(x, 5, 0, 0);
        due("AHEAD", x.count(5), 1);
        due("the TRAILER at the store again", why(x, 1), 4);
    }

    /** Promise 8, Terms 2: "A THREAD MAY step, else why not, the first that is so" (of the LEADER) */
    static void promise08_firstOfTheLeader() {
        TwinThreads x = told("span 1;set 0 1;halt;");
        go(x, 1);
        due("1 ahead of 2", why(x, 0), 1);
        x = told("span 1;slack 0 1;queues 1 1 1;out 0;out 0;");
        go(x, 1);
        due("1 ahead of 3 and 4", why(x, 0), 1);
        x = told("slack 0 1;set 0 1;halt;");
        go(x, 1);
        due("2 ahead of 3", why(x, 0), 2);
        x = told("slack 0 1;queues 1 1 1;out 0;out 0;");
        go(x, 1);
        due("3 ahead of 4", why(x, 0), 3);
        x = told("slack 0 2;queues 1 1 1;out 0;out 0;");
        go(x, 1);
        due("4 alone", why(x, 0), 4);
    }

    /** Promise 8, Terms 2: "A THREAD MAY step, else why not, the first that is so" (of the TRAILER) */
    static void promise08_firstOfTheTrailer() {
        TwinThreads x = told("span 1;set 0 1;halt;");
        go(x, 2);
        due("1 ahead of 2 and 3", why(x, 1), 1);
        x = told("span 1;set 0 1;out 0;");
        go(x, 2);
        due("1 ahead of 3 and 4", why(x, 1), 1);
        x = told("halt;");
        due("2 ahead of 3", why(x, 1), 2);
        x = told("load 0 1 2;");
        due("3 ahead of 4", why(x, 1), 3);
        x = told("slack 4 5;set 0 1;set 0 2;out 0;");
        flip(x, 5, 0, 1);
        go(x, 1);
        due("3 by LOW ahead of 4", why(x, 1), 3);
        x = told("set 0 1;set 0 2;out 0;");
        flip(x, 5, 0, 1);
        go(x, 1);
        due("4 alone", why(x, 1), 4);
    }

    /** Promise 9: "0 for no such ones" */
    static void promise09_noSuchRegister() {
        TwinThreads x = told("halt;");
        for (int k = 0; k < 8; k++) {
            flip(x, 0, k, 3);
            flip(x, 1, k, 4);
        }
        due("register(0, 7)", x.register(0, 7), 8);
        due("register(1, 0)", x.register(1, 0), 16);
        for (int k : new int[] {-1, 8, 9, 16, MIN, MAX}) {
            due("register(0, " + k + ")", x.register(0, k), 0);
            due("register(1, " + k + ")", x.register(1, k), 0);
        }
        for (int which : new int[] {-1, 2, 3, MIN, MAX}) {
            due("register(" + which + ", 0)", x.register(which, 0), 0);
        }
    }

    /** Promise 10: "A FLOAT likewise" (0 for no such ones) */
    static void promise10_noSuchFloat() {
        TwinThreads x = told("halt;");
        for (int k = 0; k < 4; k++) {
            flip(x, 2, k, 3);
            flip(x, 3, k, 31);
        }
        due("real(0, 3)", x.real(0, 3), 8);
        due("real(1, 0)", x.real(1, 0), MIN);
        for (int k : new int[] {-1, 4, 5, 7, 8, MIN, MAX}) {
            due("real(0, " + k + ")", x.real(0, k), 0);
            due("real(1, " + k + ")", x.real(1, k), 0);
        }
        for (int which : new int[] {-1, 2, 3, MIN, MAX}) {
            due("real(" + which + ", 0)", x.real(which, 0), 0);
        }
    }

    /** Promise 11: "0 for no such address" */
    static void promise11_noSuchAddress() {
        TwinThreads x = told("data 0 5;data 31 6;");
        due("memory(0)", x.memory(0), 5);
        due("memory(31)", x.memory(31), 6);
        for (int address : new int[] {-1, 32, 33, 63, 64, -32, MIN, MAX}) {
            due("memory(" + address + ")", x.memory(address), 0);
        }
    }

    /** Promise 11, Terms 2: "else all HELD LEAVE in order" (MEMORY has nothing of them ahead of that) */
    static void promise11_atPoints() {
        TwinThreads x = told("data 4 3;set 0 9;store 0 7 4;halt;");
        go(x, 4);
        due("ahead of the POINT", x.memory(4), 3);
        go(x, 1);
        due("behind it", x.memory(4), 9);
    }

    /** A TEXT whose j-th output leaves with TURN 9 j - 3; its word is j - 1. */
    private static TwinThreads outputs(int n) {
        TwinThreads x = told("span 1;set 1 1;at a;out 0;add 0 0 1;jump a;");
        due("go", goOn(x, 9 * n - 3), 9 * n - 3);
        return x;
    }

    /** Promise 12, Terms 2: "OUTPUT has 40 at most: the eldest go" */
    static void promise12_fortyAtMost() {
        TwinThreads x = outputs(40);
        for (int k = 0; k < 40; k++) {
            due("output(" + k + ") of 40", x.output(k), k);
        }
        due("output(40) of 40", x.output(40), 0);
        go(x, 9);
        for (int k = 0; k < 40; k++) {
            due("output(" + k + ") of 41", x.output(k), k + 1);
        }
        due("output(40) of 41", x.output(40), 0);
        due("came", x.count(11), 41);
        TwinThreads many = outputs(125);
        for (int k = 0; k < 40; k++) {
            due("output(" + k + ") of 125", many.output(k), k + 85);
        }
    }

    /** Promise 12: "0: there are not so many, k is below 0" */
    static void promise12_notSoMany() {
        TwinThreads x = told("span 40;set 0 5;out 0;out 0;out 0;");
        due("output(0), none yet", x.output(0), 0);
        finish(x);
        due("output(2)", x.output(2), 5);
        for (int k : new int[] {3, 4, 39, 40, 43, MAX, -1, -2, -37, MIN}) {
            due("output(" + k + ")", x.output(k), 0);
        }
        TwinThreads full = outputs(50);
        for (int k : new int[] {40, 41, 50, 79, 80, MAX, -1, -10, -40, MIN}) {
            due("output(" + k + ") of 50", full.output(k), 0);
        }
    }

    /** Promise 13: "0 for no such ones" (no such sort) */
    static void promise13_noSuchSort() {
        TwinThreads x = twoEach(6);
        for (int sort : new int[] {-1, 3, 4, MIN, MAX}) {
            due("queued(" + sort + ", 0, 0)", x.queued(sort, 0, 0), 0);
        }
    }

    /** Promise 13: "0 for no such ones" (no such k: of LOADS, of BRANCHES, of HELD) */
    static void promise13_noSuchK() {
        TwinThreads x = told("slack 8 9;queues 8 8 8;set 0 7;load 1 0 1;load 2 0 2;less 1 0 a;at a;less 1 0 b;at b;"
            + "store 0 0 3;out 0;halt;");
        go(x, 7);
        due("LOADS", x.queued(0, 0, 0) * 100 + x.queued(0, 1, 0), 809);
        due("BRANCHES", x.queued(1, 0, 0) + x.queued(1, 1, 0), 2);
        due("HELD", x.queued(2, 0, 0) * 100 + x.queued(2, 1, 0), 1032);
        for (int k : new int[] {-1, 2, 3, 7, 8, 9, MIN, MAX}) {
            for (int sort = 0; sort < 3; sort++) {
                due("queued(" + sort + ", " + k + ", 0)", x.queued(sort, k, 0), 0);
                due("queued(" + sort + ", " + k + ", 1)", x.queued(sort, k, 1), 0);
            }
        }
        due("queued of none", told("halt;").queued(0, 0, 0), 0);
        go(x, 1);
        flip(x, 1, 0, 3);
        turns(x, 11);
        for (int k = 0; k < 8; k++) {
            for (int sort = 0; sort < 3; sort++) {
                due("queued(" + sort + ", " + k + ", 0), empty", x.queued(sort, k, 0), 0);
                due("queued(" + sort + ", " + k + ", 1), empty", x.queued(sort, k, 1), 0);
            }
        }
        TwinThreads y = twoEach(7);
        due("one of LOADS went", y.count(7), 1);
        due("queued(0, -1, 0)", y.queued(0, -1, 0), 0);
        go(y, 2);
        due("one of BRANCHES went", y.count(8), 1);
        due("queued(1, -1, 0)", y.queued(1, -1, 0), 0);
        go(x, 2);
        due("the first again", x.queued(0, 0, 0), 8);
        due("the second is gone", x.queued(0, 1, 0) + x.queued(0, 1, 1), 0);
    }

    /** Promise 13: "0 for no such ones" (no such what; 2, 3, 4 are of HELD alone) */
    static void promise13_noSuchWhat() {
        TwinThreads held = told("set 0 7;store 0 0 3;halt;");
        go(held, 4);
        due("HELD", held.queued(2, 0, 3) * 10 + held.queued(2, 0, 4), 107);
        for (int what : new int[] {-1, 5, 6, MIN, MAX}) {
            due("queued(2, 0, " + what + ")", held.queued(2, 0, what), 0);
        }
        TwinThreads x = told("slack 8 9;data 8 5;set 0 7;load 1 0 1;less 2 0 a;at a;halt;");
        go(x, 3);
        due("LOADS", x.queued(0, 0, 0) * 10 + x.queued(0, 0, 1), 85);
        due("BRANCHES", x.queued(1, 0, 0), 1);
        for (int what : new int[] {-1, 2, 3, 4, 5, MIN, MAX}) {
            due("queued(0, 0, " + what + ")", x.queued(0, 0, what), 0);
            due("queued(1, 0, " + what + ")", x.queued(1, 0, what), 0);
        }
    }

    /** Promise 13: "(of BRANCHES 1, if it goes to W, else 0), 1 the word (BRANCHES: 0)" */
    static void promise13_ofBranches() {
        TwinThreads x = told("slack 8 9;set 0 7;zero 1 a;at a;zero 0 b;at b;halt;");
        go(x, 3);
        due("it goes to W", x.queued(1, 0, 0), 1);
        due("it doesn't", x.queued(1, 1, 0), 0);
        due("the word", x.queued(1, 0, 1), 0);
        due("both are there", x.count(8), 2);
    }

    /** Promise 13: "of HELD 2 whether it is COMPARED (1, 0), 3, 4 the TRAILER's ADDRESS, word (0, if it isn't)" */
    static void promise13_ofHeld() {
        TwinThreads x = told("slack 2 4;set 0 7;store 0 0 3;out 0;halt;");
        go(x, 4);
        int[] due = {10, 7, 0, 0, 0};
        for (int what = 0; what < 5; what++) {
            due("queued(2, 0, " + what + ")", x.queued(2, 0, what), due[what]);
        }
        go(x, 1);
        int[] compared = {10, 7, 1, 10, 7};
        int[] open = {32, 7, 0, 0, 0};
        for (int what = 0; what < 5; what++) {
            due("queued(2, 0, " + what + ") COMPARED", x.queued(2, 0, what), compared[what]);
            due("queued(2, 1, " + what + ")", x.queued(2, 1, what), open[what]);
        }
        due("HELD", x.count(9), 2);
    }

    /** Promise 13: "the k-th of LOADS" (0 is the first that is still there; full ones that went round, too) */
    static void promise13_kthOnes() {
        StringBuilder text = new StringBuilder("span 40;slack 8 9;queues 8 8 8;set 7 1;");
        for (int k = 0; k < 20; k++) {
            text.append("data ").append(k).append(' ').append(100 + k).append(";load 0 6 ").append(k).append(';');
        }
        TwinThreads x = told(text.toString());
        for (int turn = 0; turn < 34; turn++) {
            go(x, 1);
            int first = Math.max(0, thread(x, 1, 1) - 1);
            int n = x.count(7);
            if (n > 0) {
                due("the first", x.queued(0, 0, 0), first);
                due("the first's word", x.queued(0, 0, 1), 100 + first);
                due("the last", x.queued(0, n - 1, 0), first + n - 1);
                due("the last's word", x.queued(0, n - 1, 1), 100 + first + n - 1);
            }
            due("none behind", x.queued(0, n, 0) + x.queued(0, n, 1), 0);
        }
    }

    /** Promise 14: "0 a STEP of the TRAILER, 1 of the LEADER, 2 a POINT that passes" */
    static void promise14_stepsAndPoints() {
        turns(told("set 0 1;set 0 2;halt;"), 1, 0, 1, 0, 2);
        turns(told("span 1;set 0 1;set 0 2;halt;"), 1, 0, 2, 1, 0, 2);
        turns(told("halt;"), 2);
        TwinThreads x = told("set 0 1;halt;");
        due("next()", x.next(), 1);
        due("next() again", x.next(), 1);
        due("no TURN was", x.count(1), 0);
    }

    /** Promise 14: "10 and the ALARM's number: an ALARM" (of a STEP of the TRAILER, too) */
    static void promise14_alarms() {
        String[] texts = {"load 1 0 0;", "zero 0 a;at a;", "out 0;", "set 1 0;"};
        int[] due = {11, 12, 13, 0};
        for (int k = 0; k < 4; k++) {
            TwinThreads x = told(texts[k] + "halt;");
            go(x, 1);
            flip(x, 1, 0, 0);
            due("next() at " + texts[k], x.next(), due[k]);
            due("no ALARM yet", x.count(3), 0);
            go(x, 1);
            due("ALARMS", x.count(3), due[k] == 0 ? 0 : 1);
        }
        TwinThreads four = told("halt;");
        flip(four, 0, 0, 0);
        turns(four, 14);
    }

    /** Promise 14: "-2: none comes" (DONE) */
    static void promise14_noneWhenDone() {
        TwinThreads x = told("halt;");
        turns(x, 2, -2);
        flip(x, 4, 0, 0);
        flip(x, 0, 0, 0);
        due("next() behind a FLIP", x.next(), -2);
    }

    /** Promise 14: "-2: none comes" (DOWN) */
    static void promise14_noneWhenDown() {
        TwinThreads x = told("tries 1;set 0 1;halt;");
        flip(x, 0, 5, 0);
        turns(x, 1, 0, 14, -2);
        due("DOWN", x.count(13), 1);
    }

    /** Promise 15: "Of the k-th latest ALARM (0 the latest; 8 are kept)" */
    static void promise15_eightAreKept() {
        TwinThreads x = told("tries 9;out 0;halt;");
        stick(x, 0, 0, 0, true);
        for (int alarms = 1; alarms <= 9; alarms++) {
            go(x, 2);
            for (int k = 0; k < 10; k++) {
                due("alarm(" + k + ", 1) of " + alarms, x.alarm(k, 1), k < Math.min(alarms, 8) ? 2 * (alarms - k) : -1);
            }
        }
        due("ALARMS", x.count(3), 9);
    }

    /** Promise 15: "NONE: no such ones" (k) */
    static void promise15_noSuchK() {
        TwinThreads x = told("halt;");
        due("none yet", x.alarm(0, 0), -1);
        flip(x, 0, 0, 0);
        go(x, 1);
        due("alarm(0, 0)", x.alarm(0, 0), 4);
        for (int k : new int[] {-1, 1, 7, 8, 9, MIN, MAX}) {
            for (int what = 0; what < 4; what++) {
                due("alarm(" + k + ", " + what + ")", x.alarm(k, what), -1);
            }
        }
    }

    /** Promise 15: "NONE: no such ones" (what) */
    static void promise15_noSuchWhat() {
        TwinThreads x = told("halt;");
        flip(x, 0, 0, 0);
        go(x, 1);
        for (int what : new int[] {-1, 4, 5, MIN, MAX}) {
            due("alarm(0, " + what + ")", x.alarm(0, what), -1);
        }
    }

    /** Promise 15: "1 the TURN by which it came (from 1 on)" */
    static void promise15_theTurn() {
        TwinThreads x = told("halt;");
        flip(x, 0, 0, 0);
        go(x, 1);
        due("the first TURN", x.alarm(0, 1), 1);
        flip(x, 0, 0, 0);
        go(x, 1);
        due("the second TURN", x.alarm(0, 1), 2);
        due("the first TURN", x.alarm(1, 1), 1);
    }

    /** Promise 15: "2 STEPS of the LEADER, 3 of the TRAILER ahead of that TURN" */
    static void promise15_stepsAheadOfIt() {
        TwinThreads x = told("slack 3 4;set 0 1;set 0 2;out 0;halt;");
        go(x, 5);
        flip(x, 1, 0, 5);
        turns(x, 13);
        due("the LEADER's", x.alarm(0, 2), 3);
        due("the TRAILER's, without the STEP that brought it", x.alarm(0, 3), 2);
        due("STEPS are 0", thread(x, 0, 1) + thread(x, 1, 1), 0);
        TwinThreads y = told("span 3;" + times(3, "set 0 1;"));
        go(y, 6);
        flip(y, 1, 0, 5);
        turns(y, 14);
        due("of a POINT", y.alarm(0, 2) * 10 + y.alarm(0, 3), 33);
    }

    /** Promise 14, Terms 2: "A TURN: if the TRAILER MAY step, it does; else the LEADER, if it MAY; else a POINT" */
    static void promise14_theTrailerFirst() {
        TwinThreads x = told("slack 0 9;span 2;set 0 1;set 0 2;set 0 3;halt;");
        turns(x, 1);
        due("both MAY", why(x, 0) + why(x, 1), 0);
        turns(x, 0);
        due("the LEADER MAY", why(x, 0), 0);
        turns(x, 1, 0);
        due("neither MAY", why(x, 0) * 10 + why(x, 1), 11);
        turns(x, 2);
    }

    /** Promise 13, Terms 2: "load takes the word of the last of HELD with that ADDRESS" */
    static void promise13_lastOfHeld() {
        TwinThreads x = told("slack 8 9;queues 4 4 8;data 5 50;set 0 1;set 1 2;store 0 7 5;store 1 7 5;store 0 7 6;load 2 7 5;"
            + "halt;");
        go(x, 6);
        due("the word", x.queued(0, 0, 1), 2);
        due("the ADDRESS", x.queued(0, 0, 0), 5);
        due("the LEADER has it", x.register(0, 2), 2);
        finish(x);
        due("the TRAILER has it", x.register(1, 2), 2);
        TwinThreads y = told("slack 1 4;queues 1 1 1;data 5 50;set 0 1;store 0 7 5;load 2 7 5;halt;");
        go(y, 4);
        due("COMPARED", y.queued(2, 0, 2), 1);
        go(y, 1);
        due("of one that is COMPARED, too", y.queued(0, 0, 1), 1);
        StringBuilder full = new StringBuilder("span 40;slack 8 9;queues 8 8 8;set 0 1;");
        for (int k = 0; k < 8; k++) {
            full.append("store 0 7 ").append(20 + k).append(";add 0 0 0;");
        }
        TwinThreads z = told(full + "load 1 7 20;load 2 7 27;");
        for (int k = 0; k < 99 && thread(z, 0, 0) < 19; k++) {
            z.go(1);
        }
        due("the first of eight", z.register(0, 1), 1);
        due("the last of eight", z.register(0, 2), 128);
    }

    /** Promise 13, Terms 2: "of MEMORY without" (an out is none with that ADDRESS) */
    static void promise13_ofMemoryWithout() {
        TwinThreads x = told("slack 8 9;data 0 50;data 5 55;set 0 1;out 0;store 0 7 4;load 2 7 5;load 3 7 0;halt;");
        go(x, 5);
        due("MEMORY's word", x.queued(0, 0, 1), 55);
        due("MEMORY's word at 0", x.queued(0, 1, 1), 50);
        TwinThreads y = told("span 2;set 0 1;store 0 7 5;load 2 7 5;halt;");
        go(y, 5);
        due("it left", y.memory(5) * 10 + y.count(9), 10);
        go(y, 1);
        due("of MEMORY then", y.queued(0, 0, 1), 1);
    }

    /** Promise 13, Terms 2: "store, out: ADDRESS (of out 32) and word come to HELD" */
    static void promise13_addressOfOut() {
        TwinThreads x = told("slack 8 9;set 1 31;set 2 7;store 2 1 0;out 2;halt;");
        go(x, 4);
        due("a store's ADDRESS", x.queued(2, 0, 0), 31);
        due("an out's ADDRESS", x.queued(2, 1, 0), 32);
        due("words", x.queued(2, 0, 1) + x.queued(2, 1, 1), 14);
    }

    /** Promise 14, Terms 2: "the first of LOADS goes: ALARM 1, if its ADDRESS is another one" */
    static void promise14_alarm1() {
        for (int bit = 0; bit < 5; bit++) {
            TwinThreads x = told("load 1 0 0;halt;");
            go(x, 1);
            flip(x, 6, 0, bit);
            turns(x, 11);
            due("alarm(0, 0)", x.alarm(0, 0), 1);
            due("LOADS are empty", x.count(7), 0);
        }
        TwinThreads y = told("load 1 0 0;halt;");
        go(y, 1);
        flip(y, 1, 0, 5);
        turns(y, 0);
        due("the same ADDRESS by another REGISTER", y.count(3), 0);
        TwinThreads z = told("slack 2 4;load 1 0 0;load 1 0 1;halt;");
        go(z, 2);
        flip(z, 6, 1, 0);
        turns(z, 0, 11);
    }

    /** Promise 9, Terms 2: "else the word is taken" (of LOADS, by the TRAILER, whatever MEMORY has) */
    static void promise09_theWordIsTaken() {
        TwinThreads x = told("slack 2 4;data 3 9;load 1 0 3;load 2 0 3;halt;");
        go(x, 2);
        flip(x, 7, 0, 4);
        go(x, 1);
        due("the TRAILER's", x.register(1, 1), 25);
        due("the LEADER's", x.register(0, 1), 9);
        due("the first went", x.count(7), 1);
        go(x, 1);
        due("the second went", x.count(7), 0);
        due("the TRAILER's", x.register(1, 2), 9);
        due("no ALARM yet", x.count(3), 0);
    }

    /** Promise 14, Terms 2: "the first of BRANCHES goes: ALARM 2, if it isn't as the TRAILER has it" */
    static void promise14_alarm2() {
        TwinThreads goes = told("zero 0 a;at a;halt;");
        go(goes, 1);
        flip(goes, 1, 0, 31);
        turns(goes, 12);
        due("BRANCHES are empty", goes.count(8), 0);
        TwinThreads stays = told("zero 0 a;at a;halt;");
        flip(stays, 0, 0, 3);
        go(stays, 1);
        turns(stays, 12);
        TwinThreads flipped = told("set 0 1;zero 0 a;at a;halt;");
        go(flipped, 3);
        flip(flipped, 8, 0, 0);
        turns(flipped, 12);
        TwinThreads second = told("slack 2 4;zero 0 a;at a;zero 0 b;at b;halt;");
        go(second, 2);
        flip(second, 8, 1, 0);
        turns(second, 0, 12);
        TwinThreads same = told("zero 0 a;at a;halt;");
        go(same, 1);
        turns(same, 0);
        due("the first went", same.count(8), 0);
    }

    /** Promise 14, Terms 2: "ALARM 3, if they aren't both the same, else it is COMPARED" */
    static void promise14_alarm3() {
        for (int bit = 0; bit < 6; bit++) {
            TwinThreads x = told("store 0 1 0;halt;");
            go(x, 1);
            flip(x, 9, 0, bit);
            turns(x, 13);
            due("HELD is empty", x.count(9), 0);
        }
        for (int bit = 0; bit < 32; bit += 31) {
            TwinThreads x = told("out 0;halt;");
            go(x, 1);
            flip(x, 10, 0, bit);
            turns(x, 13);
        }
        TwinThreads trailer = told("store 0 1 0;halt;");
        go(trailer, 1);
        flip(trailer, 1, 1, 4);
        turns(trailer, 13);
        TwinThreads kind = told("store 1 0 0;out 1;halt;");
        go(kind, 1);
        flip(kind, 5, 0, 0);
        turns(kind, 13);
        TwinThreads same = told("slack 2 4;out 0;out 0;halt;");
        go(same, 2);
        turns(same, 0);
        due("COMPARED", same.queued(2, 0, 2) * 10 + same.queued(2, 1, 2), 10);
        flip(same, 10, 1, 0);
        turns(same, 13);
    }

    /** Promise 14, Terms 2: "ALARM 4, if PLACES, REGISTERS or FLOATS of both aren't the same" (PLACES) */
    static void promise14_alarm4Places() {
        for (int sort = 4; sort < 6; sort++) {
            for (int bit = 1; bit < 6; bit++) {
                TwinThreads x = told("set 0 1;halt;");
                go(x, 2);
                flip(x, sort, 0, bit);
                turns(x, 14);
                due("PLACES are back", thread(x, 0, 0) + thread(x, 1, 0), 0);
            }
        }
        TwinThreads y = told("set 0 1;halt;");
        go(y, 2);
        flip(y, 4, 0, 5);
        flip(y, 5, 0, 5);
        turns(y, 2, -2);
    }

    /** Promise 14, Terms 2: "ALARM 4, if PLACES, REGISTERS or FLOATS of both aren't the same" (REGISTERS) */
    static void promise14_alarm4Registers() {
        for (int sort = 0; sort < 2; sort++) {
            for (int number = 0; number < 8; number++) {
                for (int bit = 0; bit < 32; bit += 31) {
                    TwinThreads x = told("halt;");
                    flip(x, sort, number, bit);
                    turns(x, 14);
                    due("it is back", x.register(sort, number), 0);
                }
            }
        }
        TwinThreads y = told("halt;");
        flip(y, 0, 7, 31);
        flip(y, 1, 7, 31);
        turns(y, 2, -2);
    }

    /** Promise 14, Terms 2: "ALARM 4, if PLACES, REGISTERS or FLOATS of both aren't the same" (FLOATS; -0 isn't 0) */
    static void promise14_alarm4Floats() {
        for (int sort = 2; sort < 4; sort++) {
            for (int number = 0; number < 4; number++) {
                for (int bit = 0; bit < 32; bit += 31) {
                    TwinThreads x = told("halt;");
                    flip(x, sort, number, bit);
                    turns(x, 14);
                    due("it is back", x.real(sort - 2, number), 0);
                }
            }
        }
        TwinThreads y = told("halt;");
        lay(y, 2, 3, -1);
        lay(y, 3, 3, -1);
        turns(y, 2, -2);
    }

    /** Promise 14, Terms 2: "else ALARM 5, if STEPS aren't" */
    static void promise14_alarm5Steps() {
        TwinThreads x = told("set 0 0;halt;");
        go(x, 1);
        flip(x, 5, 0, 0);
        turns(x, 15);
        due("STEPS", x.alarm(0, 2) * 10 + x.alarm(0, 3), 10);
    }

    private static TwinThreads leftOver(String one) {
        TwinThreads x = told(one + "at b;halt;jump b;");
        go(x, 1);
        flip(x, 5, 0, 1);
        turns(x, 0);
        return x;
    }

    /** Promise 14, Terms 2: "or there are LOADS" (ALARM 5) */
    static void promise14_alarm5Loads() {
        TwinThreads x = leftOver("load 0 1 0;");
        turns(x, 15);
        due("STEPS", x.alarm(0, 2) * 10 + x.alarm(0, 3), 11);
        due("LOADS are empty", x.count(7), 0);
    }

    /** Promise 14, Terms 2: "or there are LOADS, BRANCHES" (ALARM 5) */
    static void promise14_alarm5Branches() {
        for (String one : new String[] {"zero 0 b;", "less 0 0 b;", "under 0 0 b;"}) {
            TwinThreads x = leftOver(one);
            turns(x, 15);
            due("BRANCHES are empty", x.count(8), 0);
        }
    }

    /** Promise 14, Terms 2: "or HELD that aren't COMPARED" (ALARM 5; those COMPARED are none) */
    static void promise14_alarm5Held() {
        for (String one : new String[] {"store 0 0 0;", "out 0;"}) {
            TwinThreads x = leftOver(one);
            turns(x, 15);
            due("HELD is empty", x.count(9), 0);
            due("nothing left", x.count(10) + x.count(11), 0);
        }
        TwinThreads y = told("store 0 0 0;halt;");
        go(y, 2);
        turns(y, 2);
        due("left", y.count(10), 1);
    }

    /** Promise 14, Terms 2: "else ALARM 5" (4 goes ahead of it) */
    static void promise14_alarm4AheadOf5() {
        TwinThreads x = leftOver("load 0 1 0;");
        flip(x, 0, 7, 7);
        turns(x, 14);
        TwinThreads y = told("set 0 0;halt;");
        go(y, 1);
        flip(y, 5, 0, 0);
        flip(y, 3, 3, 3);
        turns(y, 14);
    }

    /** Promise 14, Terms 2: "else ALARM 6, if of some HELD both ADDRESSES [...] aren't the same (any more)" */
    static void promise14_alarm6Addresses() {
        for (int sort = 9; sort < 12; sort += 2) {
            for (int number = 0; number < 3; number++) {
                for (int bit = 0; bit < 6; bit++) {
                    TwinThreads x = told("store 0 0 0;out 0;store 0 0 5;halt;");
                    go(x, 6);
                    flip(x, sort, number, bit);
                    turns(x, 16);
                    due("nothing left", x.count(9) + x.count(10) + x.count(11), 0);
                }
            }
        }
    }

    /** Promise 14, Terms 2: "or both words aren't the same (any more)" */
    static void promise14_alarm6Words() {
        for (int sort = 10; sort < 13; sort += 2) {
            for (int number = 0; number < 3; number++) {
                for (int bit = 0; bit < 32; bit += 31) {
                    TwinThreads x = told("store 0 0 0;out 0;store 0 0 5;halt;");
                    go(x, 6);
                    flip(x, sort, number, bit);
                    turns(x, 16);
                }
            }
        }
        TwinThreads eight = told("queues 1 1 8;" + times(8, "out 0;"));
        go(eight, 16);
        flip(eight, 10, 7, 0);
        due("the last of eight", eight.next(), 16);
        flip(eight, 12, 7, 0);
        due("both flipped are the same", eight.next(), 2);
    }

    /** Promise 14, Terms 2: "else ALARM 6" (4 and 5 go ahead of it) */
    static void promise14_alarm6IsLast() {
        TwinThreads x = told("out 0;halt;");
        go(x, 2);
        flip(x, 10, 0, 0);
        due("6 alone", x.next(), 16);
        flip(x, 1, 7, 0);
        due("4 and 6", x.next(), 14);
        TwinThreads y = told("out 0;load 0 1 0;at b;halt;jump b;");
        go(y, 3);
        flip(y, 5, 0, 1);
        due("PLACE", thread(y, 1, 0), 3);
        turns(y, 0);
        flip(y, 12, 0, 0);
        due("5 and 6", y.next(), 15);
    }

    /** Promise 13: "of HELD 2 whether it is COMPARED" (of eight, the first and the last) */
    static void promise13_eightHeld() {
        StringBuilder text = new StringBuilder("span 40;slack 8 9;queues 8 8 8;set 7 1;");
        for (int k = 0; k < 8; k++) {
            text.append("add 0 0 7;store 0 6 ").append(20 + k).append(';');
        }
        TwinThreads x = told(text + "halt;");
        go(x, 26);
        due("HELD", x.count(9), 8);
        for (int k = 0; k < 8; k++) {
            boolean compared = k < 4;
            due("ADDRESS of " + k, x.queued(2, k, 0), 20 + k);
            due("word of " + k, x.queued(2, k, 1), k + 1);
            due("COMPARED " + k, x.queued(2, k, 2), compared ? 1 : 0);
            due("beside " + k, x.queued(2, k, 3) * 100 + x.queued(2, k, 4), compared ? 100 * (20 + k) + k + 1 : 0);
        }
        due("none behind", x.queued(2, 8, 0) + x.queued(2, 8, 1), 0);
        go(x, 8);
        turns(x, 2, -2);
        for (int k = 0; k < 8; k++) {
            due("left to " + (20 + k), x.memory(20 + k), k + 1);
            due("in JOURNAL", x.left(k, 0) * 100 + x.left(k, 1), 100 * (20 + k) + k + 1);
        }
    }

    /** Promise 12, Terms 2: "else all HELD LEAVE in order" */
    static void promise12_inOrder() {
        TwinThreads x = told("set 0 1;set 1 2;store 0 7 3;out 0;store 1 7 3;out 1;halt;");
        finish(x);
        due("the later store", x.memory(3), 2);
        due("output(0)", x.output(0), 1);
        due("output(1)", x.output(1), 2);
        int[] addresses = {3, 32, 3, 32};
        for (int k = 0; k < 4; k++) {
            due("left(" + k + ", 0)", x.left(k, 0), addresses[k]);
            due("left(" + k + ", 1)", x.left(k, 1), k / 2 + 1);
        }
    }

    /** Promise 11, Terms 2: "(an ADDRESS below 32: to MEMORY; else to OUTPUT)" */
    static void promise11_below32() {
        TwinThreads x = told("set 0 9;set 1 31;store 0 1 0;out 0;halt;");
        finish(x);
        due("ADDRESS 31", x.memory(31), 9);
        due("ADDRESS 32", x.output(0), 9);
        due("memory(0)", x.memory(0), 0);
        int[][] flips = {{5, 0, 1}, {0, 0, 1}, {5, 1, 0}};
        for (int[] f : flips) {
            TwinThreads y = told("set 0 9;store 0 7 31;out 0;halt;");
            go(y, 6);
            flip(y, 9, f[1], f[0]);
            flip(y, 11, f[1], f[0]);
            turns(y, 2);
            boolean storeLeftToOutput = f[0] == 5 && f[1] == 0;
            boolean outLeftToMemory = f[0] == 5 && f[1] == 1;
            due("left to MEMORY", y.count(10), storeLeftToOutput ? 0 : outLeftToMemory ? 2 : 1);
            due("came to OUTPUT", y.count(11), storeLeftToOutput ? 2 : outLeftToMemory ? 0 : 1);
            due("memory(31)", y.memory(31), f[1] == 1 ? 9 : 0);
            due("memory(30)", y.memory(30), f[0] == 0 ? 9 : 0);
            due("memory(0)", y.memory(0), outLeftToMemory ? 9 : 0);
            due("output(0)", y.output(0), outLeftToMemory ? 0 : 9);
        }
        TwinThreads all = told("set 0 9;store 0 7 31;halt;");
        go(all, 4);
        flip(all, 9, 0, 5);
        flip(all, 11, 0, 5);
        turns(all, 2);
        due("ADDRESS 63", all.output(0), 9);
    }

    /** Promise 8, Terms 2: "STEPS are 0, and this is where both go back to" (behind a POINT) */
    static void promise08_whereBothGoBackTo() {
        TwinThreads x = told("span 2;set 0 1;real 3 0;set 0 2;set 1 3;halt;");
        go(x, 5);
        due("STEPS are 0", thread(x, 0, 1) + thread(x, 1, 1), 0);
        go(x, 4);
        due("the second one's", x.register(1, 0), 2);
        flip(x, 1, 7, 0);
        flip(x, 2, 2, 0);
        turns(x, 14);
        for (int which = 0; which < 2; which++) {
            due("PLACE", thread(x, which, 0), 2);
            due("register 0", x.register(which, 0), 1);
            due("register 1", x.register(which, 1), 0);
            due("register 7", x.register(which, 7), 0);
            due("float 3", x.real(which, 3), Float.floatToIntBits(1));
            due("float 2", x.real(which, 2), 0);
            due("STEPS", thread(x, which, 1), 0);
        }
        TwinThreads first = told("set 0 1;halt;");
        go(first, 2);
        flip(first, 0, 0, 1);
        turns(first, 14);
        due("the beginning is one, too", thread(first, 0, 0) + first.register(0, 0) + first.register(1, 0), 0);
    }

    /** Promise 6, Terms 2: "It is DONE, if then both are HALTED: no TURNS come any more" */
    static void promise06_doneIfHalted() {
        TwinThreads x = told("span 1;set 0 1;set 0 2;halt;");
        go(x, 3);
        due("a POINT, not HALTED", x.count(2) * 10 + x.count(12), 10);
        go(x, 2);
        due("both HALTED, no POINT yet", thread(x, 0, 2) + thread(x, 1, 2) + x.count(12), 2);
        go(x, 1);
        due("the POINT by the span that ends it", x.count(2) * 10 + x.count(12), 21);
        due("none more", x.go(9), 0);
        TwinThreads behind = told("set 0 1;");
        go(behind, 3);
        due("behind the last INSTRUCTION", behind.count(12), 1);
    }

    /** Promise 35, Terms 2: "ALARM: both THREADS are as they were at the last POINT, LOADS, BRANCHES, HELD are empty, STEPS are 0" */
    static void promise35_allIsBack() {
        TwinThreads x = told(TWO_EACH);
        go(x, 6);
        due("LOADS, BRANCHES, HELD", x.count(7) * 100 + x.count(8) * 10 + x.count(9), 222);
        flip(x, 1, 0, 3);
        turns(x, 11);
        due("LOADS, BRANCHES, HELD", x.count(7) + x.count(8) + x.count(9), 0);
        due("AHEAD", x.count(5), 0);
        due("STEPS", thread(x, 0, 1) + thread(x, 1, 1), 0);
        due("PLACES", thread(x, 0, 0) + thread(x, 1, 0), 0);
        due("the flipped bit", x.register(1, 0), 0);
        turns(x, 1, 1, 1, 1, 1, 1, 0, 0, 0, 0, 0, 0, 2, -2);
    }

    /** Promise 35, Terms 2: "So many ALARMS one behind another without a POINT as tries: it is DOWN" */
    static void promise35_asManyAsTries() {
        for (int tries = 1; tries <= 9; tries++) {
            TwinThreads x = told("tries " + tries + ";halt;");
            for (int k = 1; k <= tries; k++) {
                due("not DOWN with " + (k - 1) + " of " + tries, x.count(13), 0);
                flip(x, 0, 0, 0);
                turns(x, 14);
            }
            due("DOWN with " + tries, x.count(13), 1);
            due("not DONE", x.count(12), 0);
            turns(x, -2);
        }
    }

    /** Promise 35, Terms 2: "one behind another without a POINT" (a POINT between begins anew) */
    static void promise35_aPointBetween() {
        TwinThreads x = told("tries 2;span 1;at a;set 0 1;jump a;");
        for (int k = 0; k < 6; k++) {
            flip(x, 0, 5, 5);
            go(x, 3);
            due("an ALARM", x.count(3), k + 1);
            due("one since the POINT", x.count(4), 1);
            go(x, 3);
            due("a POINT", x.count(2), k + 1);
            due("none since the POINT", x.count(4), 0);
        }
        flip(x, 0, 5, 5);
        go(x, 3);
        due("not DOWN", x.count(13), 0);
        flip(x, 0, 5, 5);
        go(x, 3);
        due("DOWN", x.count(13), 1);
    }

    /** Promise 35: "0 INSTRUCTIONS, 1 TURNS, 2 POINTS that passed, 3 ALARMS" (an ALARM is a TURN, but no POINT) */
    static void promise35_turnsPointsAlarms() {
        TwinThreads x = told("span 9;set 0 1;halt;");
        due("INSTRUCTIONS", x.count(0), 2);
        go(x, 2);
        flip(x, 0, 0, 5);
        go(x, 1);
        due("TURNS, POINTS, ALARMS", x.count(1) * 100 + x.count(2) * 10 + x.count(3), 301);
        go(x, 3);
        due("TURNS, POINTS, ALARMS", x.count(1) * 100 + x.count(2) * 10 + x.count(3), 611);
        x.go(9);
        due("TURNS when DONE", x.count(1), 6);
    }

    /** Promise 35: "5 AHEAD, 6 the greatest AHEAD so far" (it stays over POINTS and ALARMS) */
    static void promise35_greatestAhead() {
        TwinThreads x = told("slack 3 4;span 4;tries 9;set 0 1;set 0 2;set 0 3;set 0 4;set 0 5;halt;");
        int[] ahead = {1, 2, 3, 2, 3, 2, 1, 0, 0, 1, 0};
        int greatest = 0;
        for (int due : ahead) {
            go(x, 1);
            greatest = Math.max(greatest, due);
            due("AHEAD", x.count(5), due);
            due("the greatest so far", x.count(6), greatest);
        }
        flip(x, 0, 7, 7);
        turns(x, 14);
        due("AHEAD behind an ALARM", x.count(5), 0);
        due("the greatest so far", x.count(6), 3);
        due("of no TURN", told("set 0 1;").count(6), 0);
    }

    /** Promise 35: "7 how many are in LOADS, 8 BRANCHES, 9 HELD" (from none to as many as may be, and back) */
    static void promise35_queues() {
        int[][] due = {{0, 0, 0}, {1, 0, 0}, {2, 0, 0}, {2, 1, 0}, {2, 2, 0}, {2, 2, 1}, {2, 2, 2}, {1, 2, 2}, {0, 2, 2},
            {0, 1, 2}, {0, 0, 2}, {0, 0, 2}, {0, 0, 2}, {0, 0, 0}};
        TwinThreads x = told(TWO_EACH);
        for (int k = 0; k < due.length; k++) {
            for (int sort = 0; sort < 3; sort++) {
                due("count(" + (7 + sort) + ") behind " + k, x.count(7 + sort), due[k][sort]);
            }
            x.go(1);
        }
    }

    /** Promise 35: "10 how many left to MEMORY, 11 came to OUTPUT (those that went, too)" */
    static void promise35_leftAndCame() {
        TwinThreads x = outputs(43);
        due("came to OUTPUT", x.count(11), 43);
        due("left to MEMORY", x.count(10), 0);
        TwinThreads y = told("span 1;at a;store 0 0 0;jump a;");
        goOn(y, 6 * 40);
        due("left to MEMORY", y.count(10), 40);
        due("came to OUTPUT", y.count(11), 0);
    }

    /** Promise 35: "4 ALARMS since the last POINT" (none behind one, all ahead of the first) */
    static void promise35_sinceThePoint() {
        TwinThreads x = told("tries 9;span 1;set 0 1;set 0 2;halt;");
        for (int k = 1; k <= 3; k++) {
            flip(x, 0, 5, 5);
            go(x, 3);
            due("ALARMS since the beginning", x.count(4), k);
        }
        go(x, 3);
        due("behind the POINT", x.count(4), 0);
        flip(x, 0, 5, 5);
        go(x, 3);
        due("ALARMS since the POINT", x.count(4) * 10 + x.count(3), 14);
        finish(x);
        due("when DONE", x.count(4) * 10 + x.count(3), 4);
    }

    /** Promise 35: "17 bits that are STUCK" (each once, of both) */
    static void promise35_stuck() {
        TwinThreads x = told("set 0 1;halt;");
        for (int bit = 0; bit < 32; bit++) {
            due("STUCK", x.count(17), 2 * bit);
            stick(x, 0, 7, bit, true);
            stick(x, 1, 0, bit, false);
        }
        stick(x, 0, 7, 31, false);
        due("STUCK", x.count(17), 64);
        x.loose();
        due("none", x.count(17), 0);
    }

    /** Promise 35: "12 whether it is DONE, 13 DOWN (1, 0)" */
    static void promise35_doneDown() {
        TwinThreads x = told("tries 1;set 0 1;halt;");
        due("neither", x.count(12) * 10 + x.count(13), 0);
        finish(x);
        due("DONE", x.count(12) * 10 + x.count(13), 10);
        TwinThreads y = told("tries 1;halt;");
        flip(y, 0, 0, 0);
        go(y, 1);
        due("DOWN", y.count(12) * 10 + y.count(13), 1);
    }

    /** Promise 35: "14 how many are in JOURNAL" (16 at most) */
    static void promise35_inJournal() {
        TwinThreads x = told("span 1;at a;store 0 0 0;jump a;");
        for (int left = 0; left < 20; left++) {
            due("in JOURNAL when " + left + " left", x.count(14), Math.min(left, 16));
            go(x, left == 0 ? 3 : 6);
        }
    }

    /** Promise 35: "15 TURNS that were STEPS of the LEADER, 16 of the TRAILER (those that brought an ALARM, too)" */
    static void promise35_steps() {
        String[] texts = {"load 1 0 0;halt;", "zero 0 a;at a;halt;", "out 0;halt;"};
        for (String text : texts) {
            TwinThreads x = told(text);
            go(x, 1);
            due("ahead", x.count(15) * 10 + x.count(16), 10);
            flip(x, 1, 0, 0);
            go(x, 1);
            due("ALARMS", x.count(3), 1);
            due("with the STEP that brought it", x.count(15) * 10 + x.count(16), 11);
            finish(x);
            due("with those that came again", x.count(15) * 10 + x.count(16), 22);
        }
        TwinThreads point = told("set 0 1;halt;");
        go(point, 2);
        flip(point, 0, 0, 5);
        go(point, 1);
        due("an ALARM of a POINT is none", point.count(15) * 10 + point.count(16), 11);
    }

    /** Promise 35: "NONE for another what" */
    static void promise35_anotherWhat() {
        TwinThreads x = told("set 0 1;halt;");
        for (int what : new int[] {-1, 18, 19, 32, MIN, MAX}) {
            due("count(" + what + ")", x.count(what), -1);
        }
        for (int what = 0; what < 18; what++) {
            due("count(" + what + ")", x.count(what), what == 0 ? 2 : 0);
        }
    }
}
