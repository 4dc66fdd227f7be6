/** Promises 6 to 18 and 35 by small texts whose TURNS are told one by one. */
final class TurnTest {
    private static final Check CHECK = new Check();

    public static void main(String[] args) {
        going();
        stepByStep();
        slack();
        high();
        fullQueues();
        defaults();
        eights();
        emptyQueues();
        spanPasses();
        forwarding();
        loadAddresses();
        arithmetic();
        branching();
        alarms();
        alarmsOfPoints();
        alarmRows();
        downBehindTries();
        flips();
        flipsThatLeaveTogether();
        outputs();
        plainThread();
        wrongOnes();
        CHECK.end();
    }

    private static void go(TwinThreads x, int n) {
        CHECK.due("go(" + n + ")", x.go(n), n);
    }

    private static void flip(TwinThreads x, int sort, int number, int bit) {
        CHECK.due("flip(" + sort + ", " + number + ", " + bit + ")", x.flip(sort, number, bit), true);
    }

    /** Does one TURN after another and compares what next() told ahead of each. */
    private static void turns(TwinThreads x, int... kinds) {
        for (int k = 0; k < kinds.length; k++) {
            CHECK.due("next() ahead of turn " + (k + 1), x.next(), kinds[k]);
            CHECK.due("go(1)", x.go(1), kinds[k] == -2 ? 0 : 1);
        }
    }

    private static void finish(TwinThreads x) {
        x.go(300);
        CHECK.due("whether it is done", x.count(12), 1);
    }

    private static void going() {
        TwinThreads x = Check.told("at a;add 0 0 1;jump a;");
        CHECK.due("go(-1)", x.go(-1), -1);
        CHECK.due("go(301)", x.go(301), -1);
        CHECK.due("go(MIN)", x.go(Integer.MIN_VALUE), -1);
        CHECK.due("go(0)", x.go(0), 0);
        CHECK.due("go(300)", x.go(300), 300);
        CHECK.due("count(1)", x.count(1), 300);
        CHECK.due("count(2), 17 turns a point", x.count(2), 17);
        CHECK.due("compared()", x.compared(), 136);
    }

    private static void stepByStep() {
        TwinThreads x = Check.told("slack 1 2;set 0 7;store 0 1 3;load 2 1 3;zero 1 a;at a;out 2;halt;");
        turns(x, 1, 0);
        CHECK.due("leader's place", Check.thread(x, 0, 0), 1);
        CHECK.due("trailer's steps", Check.thread(x, 1, 1), 1);
        turns(x, 1);
        CHECK.due("HELD's address", x.queued(2, 0, 0), 3);
        CHECK.due("HELD's word", x.queued(2, 0, 1), 7);
        CHECK.due("HELD isn't compared", x.queued(2, 0, 2), 0);
        CHECK.due("HELD beside, address", x.queued(2, 0, 3), 0);
        CHECK.due("HELD beside, word", x.queued(2, 0, 4), 0);
        turns(x, 0);
        CHECK.due("HELD is compared", x.queued(2, 0, 2), 1);
        CHECK.due("HELD beside, address", x.queued(2, 0, 3), 3);
        CHECK.due("HELD beside, word", x.queued(2, 0, 4), 7);
        CHECK.due("HELD, what 5", x.queued(2, 0, 5), 0);
        turns(x, 1);
        CHECK.due("LOADS' address", x.queued(0, 0, 0), 3);
        CHECK.due("LOADS' word", x.queued(0, 0, 1), 7);
        CHECK.due("LOADS, what 2", x.queued(0, 0, 2), 0);
        CHECK.due("count(7)", x.count(7), 1);
        turns(x, 0);
        CHECK.due("count(7)", x.count(7), 0);
        turns(x, 1);
        CHECK.due("BRANCHES", x.queued(1, 0, 0), 1);
        CHECK.due("BRANCHES, what 1", x.queued(1, 0, 1), 0);
        CHECK.due("count(8)", x.count(8), 1);
        turns(x, 0, 1);
        CHECK.due("HELD of out", x.queued(2, 1, 0), 32);
        CHECK.due("count(9)", x.count(9), 2);
        turns(x, 0);
        CHECK.due("memory(3) ahead of the point", x.memory(3), 0);
        CHECK.due("output(0) ahead of the point", x.output(0), 0);
        CHECK.due("compared() ahead of the point", x.compared(), 0);
        turns(x, 2, -2);
        CHECK.due("memory(3)", x.memory(3), 7);
        CHECK.due("output(0)", x.output(0), 7);
        int[] counts = {6, 11, 1, 0, 0, 0, 1, 0, 0, 0, 1, 1, 1, 0, 2, 5, 5, 0};
        for (int what = 0; what < counts.length; what++) {
            CHECK.due("count(" + what + ")", x.count(what), counts[what]);
        }
        CHECK.due("count(18)", x.count(18), -1);
        CHECK.due("count(-1)", x.count(-1), -1);
        CHECK.due("compared()", x.compared(), 5);
        CHECK.due("thread(0, 3) when done", Check.thread(x, 0, 3), 2);
    }

    private static void slack() {
        turns(Check.told("slack 2 4;set 0 1;set 0 2;set 0 3;halt;"), 1, 1, 0, 1, 0, 0, 2, -2);
        turns(Check.told("slack 0 1;set 0 1;set 0 2;halt;"), 1, 0, 1, 0, 2, -2);
        turns(Check.told("slack 8 9;span 3;set 0 1;set 0 2;set 0 3;set 0 4;halt;"), 1, 1, 1, 0, 0, 0, 2, 1, 0, 2, -2);
        TwinThreads x = Check.told("slack 2 4;set 0 1;set 0 2;set 0 3;halt;");
        CHECK.due("trailer of nothing ahead", Check.thread(x, 1, 3), 3);
        go(x, 1);
        CHECK.due("ahead 1", x.count(5), 1);
        CHECK.due("trailer below LOW", Check.thread(x, 1, 3), 3);
        CHECK.due("leader may", Check.thread(x, 0, 3), 0);
        go(x, 1);
        CHECK.due("trailer at LOW", Check.thread(x, 1, 3), 0);
        go(x, 3);
        CHECK.due("leader is halted", Check.thread(x, 0, 3), 2);
        CHECK.due("leader is halted", Check.thread(x, 0, 2), 1);
        CHECK.due("trailer isn't halted", Check.thread(x, 1, 2), 0);
        CHECK.due("ahead", x.count(5), 1);
        CHECK.due("trailer below LOW, but the leader may not", Check.thread(x, 1, 3), 0);
        CHECK.due("greatest ahead", x.count(6), 2);
    }

    private static void high() {
        TwinThreads x = Check.told("slack 1 3;set 0 1;set 0 2;set 0 3;set 0 4;set 0 5;halt;");
        flip(x, 5, 0, 5);
        CHECK.due("trailer's place", Check.thread(x, 1, 0), 32);
        CHECK.due("trailer is halted", Check.thread(x, 1, 3), 2);
        turns(x, 1, 1, 1);
        CHECK.due("leader at HIGH", Check.thread(x, 0, 3), 3);
        turns(x, 14);
        CHECK.due("alarm's leader steps", x.alarm(0, 2), 3);
        CHECK.due("alarm's trailer steps", x.alarm(0, 3), 0);
        CHECK.due("greatest ahead stays", x.count(6), 3);
        CHECK.due("trailer is back", Check.thread(x, 1, 0), 0);
        CHECK.due("leader is back", x.register(0, 0), 0);
        TwinThreads y = Check.told("slack 1 3;span 3;set 0 1;set 0 2;set 0 3;set 0 4;halt;");
        flip(y, 5, 0, 5);
        go(y, 3);
        CHECK.due("the span goes ahead of HIGH", Check.thread(y, 0, 3), 1);
        TwinThreads z = Check.told("slack 1 3;set 0 1;set 0 2;set 0 3;");
        flip(z, 5, 0, 5);
        go(z, 3);
        CHECK.due("HALTED goes ahead of HIGH", Check.thread(z, 0, 3), 2);
    }

    private static void fullQueues() {
        String[] texts = {"load 0 1 0;load 0 1 1;halt;", "zero 0 a;at a;zero 0 b;at b;halt;", "store 0 0 0;out 0;halt;",
            "less 0 1 a;at a;under 0 1 b;at b;halt;", "out 0;store 0 0 0;halt;"};
        for (String text : texts) {
            TwinThreads x = Check.told("slack 3 4;queues 1 1 1;" + text);
            go(x, 1);
            CHECK.due("full for " + text, Check.thread(x, 0, 3), 4);
            CHECK.due("the trailer may, as the leader may not", Check.thread(x, 1, 3), 0);
        }
        TwinThreads roomy = Check.told("slack 3 4;queues 2 2 2;load 0 1 0;load 0 1 1;halt;");
        go(roomy, 1);
        CHECK.due("room for two", Check.thread(roomy, 0, 3), 0);
        turns(Check.told("slack 1 4;queues 1 1 1;store 0 0 0;store 0 0 1;halt;"), 1, 0, 2, 1, 0, 2, -2);
        TwinThreads others = Check.told("slack 3 4;queues 1 1 1;load 0 1 0;store 0 1 0;zero 5 a;at a;set 0 1;halt;");
        go(others, 3);
        CHECK.due("full queues don't matter to a set", Check.thread(others, 0, 3), 0);
    }

    private static void defaults() {
        TwinThreads high = Check.told("set 0 1;set 0 2;set 0 3;set 0 4;set 0 5;set 0 6;set 0 7;set 0 8;halt;");
        turns(high, 1, 0, 1, 0);
        flip(high, 5, 0, 5);
        turns(high, 1, 1, 1, 1, 14);
        String[] lines = {"load 0 1 0;", "zero 1 a;at a;", "out 0;"};
        String[] later = {"load 0 1 0;", "zero 1 %c;at %c;", "out 0;"};
        for (int sort = 0; sort < 3; sort++) {
            StringBuilder text = new StringBuilder("slack 8 9;").append(lines[sort]);
            for (char c = 'b'; c < 'g'; c++) {
                text.append(String.format(later[sort], c, c));
            }
            TwinThreads x = Check.told(text + "halt;");
            turns(x, 1, 1, 1, 1);
            CHECK.due("four fill the queue " + sort, Check.thread(x, 0, 3), 4);
            for (int other = 0; other < 3; other++) {
                StringBuilder sizes = new StringBuilder("queues");
                for (int k = 0; k < 3; k++) {
                    sizes.append(k == other ? " 2" : " 5");
                }
                TwinThreads y = Check.told(sizes + ";" + text + "halt;");
                int room = other == sort ? 2 : 5;
                go(y, room);
                CHECK.due("queue " + sort + " is full with " + room, Check.thread(y, 0, 3), 4);
                CHECK.due("so many", y.count(7 + sort), room);
            }
        }
        TwinThreads tries = Check.told("out 0;halt;");
        tries.stick(0, 0, 0, true);
        CHECK.due("three tries", tries.go(300), 6);
        CHECK.due("a span of 8", Check.told("at a;jump a;").go(17), 17);
        CHECK.due("DRAWS by a seed of 0", tries.chance(-1, 5, 2), tries.chance(0, 5, 2));
    }

    /** Queues that are full with eight, and have gone round. */
    private static void eights() {
        StringBuilder text = new StringBuilder("span 40;slack 8 9;queues 8 8 8;set 0 1;");
        for (int k = 0; k < 8; k++) {
            text.append("store 0 7 ").append(24 + k).append(";add 0 0 0;");
        }
        TwinThreads x = Check.told(text + "load 1 7 31;load 2 7 24;out 0;halt;");
        for (int k = 0; x.count(9) < 8; k++) {
            x.go(1);
            CHECK.due("eight come", k < 99, true);
        }
        for (int k = 0; k < 8; k++) {
            CHECK.due("HELD's address", x.queued(2, k, 0), 24 + k);
            CHECK.due("HELD's word", x.queued(2, k, 1), 1 << k);
        }
        CHECK.due("none behind", x.queued(2, 8, 0), 0);
        flip(x, 9, 7, 5);
        CHECK.due("the eighth is flipped", x.queued(2, 7, 0), 63);
        flip(x, 9, 7, 5);
        go(x, 1);
        CHECK.due("next to a full one", x.next() >= 0, true);
        for (int k = 0; x.count(2) == 0 && x.next() != 2; k++) {
            x.go(1);
            CHECK.due("a point comes", k < 99, true);
        }
        CHECK.due("the last of eight", x.register(0, 1), 128);
        flip(x, 10, 7, 3);
        CHECK.due("the eighth isn't the same", x.next(), 16);
        flip(x, 12, 7, 3);
        CHECK.due("it is the same", x.next(), 2);
        go(x, 1);
        for (int k = 0; k < 8; k++) {
            CHECK.due("memory", x.memory(24 + k), k == 7 ? 136 : 1 << k);
        }
        rounds("load 0 1 %d;", 0);
        rounds("zero 1 %c;at %c;", 1);
    }

    private static void rounds(String line, int sort) {
        StringBuilder text = new StringBuilder("data 0 100;data 5 105;data 9 109;data 13 113;span 40;slack 8 9;queues 8 8 8;");
        for (int k = 0; k < 20; k++) {
            text.append(sort == 0 ? String.format(line, k) : String.format(line, 'a' + k, 'a' + k));
        }
        for (int turn = 1; turn <= 28; turn++) {
            // A new one each time: so many calls are too many for one object.
            TwinThreads x = Check.told(text + "halt;");
            go(x, turn);
            int n = x.count(7 + sort);
            int first = Check.thread(x, 1, 1);
            CHECK.due("so many are in the queue", n, x.count(5));
            for (int k = 0; k < n; k++) {
                CHECK.due("the queue's k-th", x.queued(sort, k, 0), sort == 0 ? first + k : 1);
                if (sort == 0) {
                    CHECK.due("its word", x.queued(0, k, 1), (first + k) % 4 == 1 && first + k > 1 && first + k < 14
                        ? 100 + first + k : first + k == 0 ? 100 : 0);
                }
                flip(x, sort == 0 ? 6 : 8, k, 0);
                CHECK.due("the queue's k-th, flipped", x.queued(sort, k, 0), sort == 0 ? first + k ^ 1 : 0);
                flip(x, sort == 0 ? 6 : 8, k, 0);
            }
            CHECK.due("none behind", x.queued(sort, n, 0), 0);
        }
    }

    private static void emptyQueues() {
        String[] texts = {"load 1 0 0;", "zero 1 a;at a;", "less 0 1 a;at a;", "under 0 1 a;at a;", "store 1 0 0;", "out 1;"};
        for (String text : texts) {
            TwinThreads x = Check.told("set 0 1;" + text + "halt;");
            go(x, 1);
            flip(x, 5, 0, 0);
            CHECK.due("empty for " + text, Check.thread(x, 1, 3), 4);
            CHECK.due("the leader steps for " + text, x.next(), 1);
        }
        TwinThreads held = Check.told("slack 1 4;store 0 0 0;store 0 0 1;halt;");
        go(held, 2);
        flip(held, 5, 0, 0);
        flip(held, 4, 0, 1);
        go(held, 0);
        CHECK.due("those compared are none", Check.thread(held, 1, 3), 3);
    }

    private static void spanPasses() {
        TwinThreads x = Check.told("span 2;set 0 1;set 1 2;out 0;store 1 2 9;halt;");
        turns(x, 1, 0, 1, 0);
        CHECK.due("leader has the span", Check.thread(x, 0, 3), 1);
        CHECK.due("trailer has the span", Check.thread(x, 1, 3), 1);
        turns(x, 2);
        CHECK.due("steps behind a point", Check.thread(x, 0, 1), 0);
        CHECK.due("compared()", x.compared(), 2);
        CHECK.due("points", x.count(2), 1);
        CHECK.due("not done", x.count(12), 0);
        turns(x, 1, 0, 1, 0, 2, -2);
        CHECK.due("output(0)", x.output(0), 1);
        CHECK.due("memory(9)", x.memory(9), 2);
        CHECK.due("left(1, 2)", x.left(1, 2), 2);
        CHECK.due("compared()", x.compared(), 4);
    }

    private static void forwarding() {
        TwinThreads x = Check.told("queues 4 4 8;data 5 50;set 0 1;set 1 2;store 0 7 5;store 1 7 5;load 2 7 5;load 3 7 6;halt;");
        finish(x);
        CHECK.due("the last of HELD", x.register(0, 2), 2);
        CHECK.due("the trailer takes it", x.register(1, 2), 2);
        CHECK.due("memory's word", x.register(0, 3), 0);
        CHECK.due("memory(5)", x.memory(5), 2);
        TwinThreads y = Check.told("data 5 50;store 0 7 5;load 2 7 5;load 3 7 7;halt;");
        go(y, 1);
        flip(y, 9, 0, 1);
        go(y, 1);
        CHECK.due("a flipped address: alarm 3", y.alarm(0, 0), 3);
        TwinThreads z = Check.told("slack 3 4;data 5 50;store 0 7 5;load 2 7 5;load 3 7 7;halt;");
        go(z, 1);
        flip(z, 9, 0, 1);
        flip(z, 10, 0, 4);
        go(z, 2);
        CHECK.due("memory's word, as HELD has another address", z.register(0, 2), 50);
        CHECK.due("the word of HELD with the flipped address", z.register(0, 3), 16);
    }

    private static void loadAddresses() {
        TwinThreads x = Check.told("data 31 31;data 0 7;data 3 33;set 0 1;sub 1 2 0;load 3 1 0;load 4 1 1;load 5 1 31;"
            + "set 6 35;load 7 6 0;halt;");
        finish(x);
        CHECK.due("-1 + 0", x.register(0, 3), 31);
        CHECK.due("-1 + 1", x.register(0, 4), 7);
        CHECK.due("-1 + 31", x.register(0, 5), 0);
        CHECK.due("35 + 0", x.register(0, 7), 33);
        CHECK.due("in PLAIN", x.plainOf(99, 0, 7), 33);
        TwinThreads y = Check.told("load 1 0 31;halt;");
        for (int bit = 0; bit < 31; bit++) {
            y.flip(0, 0, bit);
        }
        go(y, 1);
        CHECK.due("the greatest register and 31", y.queued(0, 0, 0), 30);
    }

    private static void arithmetic() {
        TwinThreads x = Check.told("set 0 99999;set 1 3;add 2 0 1;sub 3 1 0;mul 4 0 0;xor 5 0 1;real 1 3;whole 6 1;bits 7 1;"
            + "plus 2 1 1;times 3 1 1;halt;");
        finish(x);
        int[] due = {99999, 3, 100002, -99996, (int) (99999L * 99999L), 99999 ^ 3, -99996, Float.floatToIntBits(-99996f)};
        for (int k = 0; k < 8; k++) {
            CHECK.due("register(0, " + k + ")", x.register(0, k), due[k]);
            CHECK.due("register(1, " + k + ")", x.register(1, k), due[k]);
        }
        CHECK.due("real(0, 2)", x.real(0, 2), Float.floatToIntBits(-99996f - 99996f));
        CHECK.due("real(1, 3)", x.real(1, 3), Float.floatToIntBits(-99996f * -99996f));
        TwinThreads odd = Check.told("set 1 7;set 3 5;set 7 3;add 0 1 3;sub 2 3 7;mul 4 1 3;xor 5 7 1;mul 6 7 1;halt;");
        finish(odd);
        int[] odds = {12, 7, 2, 5, 35, 4, 21, 3};
        for (int k = 0; k < 8; k++) {
            CHECK.due("register(1, " + k + ")", odd.register(1, k), odds[k]);
        }
        TwinThreads y = Check.told("add 0 0 0;mul 1 1 1;halt;");
        flip(y, 0, 0, 31);
        flip(y, 0, 1, 16);
        go(y, 3);
        CHECK.due("the lowest 32 bits of a sum", y.register(0, 0), 0);
        CHECK.due("the lowest 32 bits of a product", y.register(0, 1), 0);
    }

    private static void branching() {
        TwinThreads x = Check.told("set 0 1;zero 0 a;set 1 1;at a;less 0 1 b;set 2 1;at b;less 3 0 c;set 3 9;at c;"
            + "jump d;set 4 9;at d;zero 5 e;set 5 9;at e;halt;");
        finish(x);
        CHECK.due("zero of 1 doesn't go", x.register(0, 1), 1);
        CHECK.due("less of the same doesn't go", x.register(0, 2), 1);
        CHECK.due("less goes", x.register(0, 3), 0);
        CHECK.due("jump goes", x.register(0, 4), 0);
        CHECK.due("zero goes", x.register(0, 5), 0);
        TwinThreads y = Check.told("set 0 1;sub 1 2 0;less 1 2 a;set 3 1;at a;real 0 0;under 1 0 b;set 4 1;at b;under 0 0 c;"
            + "set 5 1;at c;jump end;set 6 1;at end;");
        finish(y);
        CHECK.due("-1 is less than 0", y.register(0, 3), 0);
        CHECK.due("0 is under 1", y.register(0, 4), 0);
        CHECK.due("1 isn't under 1", y.register(0, 5), 1);
        CHECK.due("behind the last", Check.thread(y, 0, 0), 11);
        CHECK.due("halted behind the last", Check.thread(y, 0, 2), 1);
        CHECK.due("done", y.count(12), 1);
    }

    private static void alarms() {
        TwinThreads one = Check.told("set 0 1;load 1 0 0;halt;");
        go(one, 1);
        flip(one, 5, 0, 0);
        turns(one, 1, 11);
        CHECK.due("alarm 1", one.alarm(0, 0), 1);
        CHECK.due("alarm's turn", one.alarm(0, 1), 3);
        CHECK.due("leader's steps", one.alarm(0, 2), 2);
        CHECK.due("trailer's steps", one.alarm(0, 3), 0);
        CHECK.due("a step of the trailer that brought an alarm", one.count(16), 1);
        CHECK.due("LOADS are empty", one.count(7), 0);
        TwinThreads two = Check.told("zero 0 a;at a;halt;");
        go(two, 1);
        flip(two, 1, 0, 3);
        turns(two, 12);
        CHECK.due("BRANCHES are empty", two.count(8), 0);
        CHECK.due("the trailer's register is back", two.register(1, 0), 0);
        turns(two, 1, 0, 2, -2);
        TwinThreads three = Check.told("out 0;halt;");
        go(three, 1);
        flip(three, 1, 0, 0);
        turns(three, 13);
        CHECK.due("HELD is empty", three.count(9), 0);
        CHECK.due("nothing came to OUTPUT", three.count(11), 0);
        TwinThreads address = Check.told("store 1 0 0;halt;");
        go(address, 1);
        flip(address, 1, 0, 0);
        turns(address, 13);
        TwinThreads word = Check.told("store 1 0 0;halt;");
        go(word, 1);
        flip(word, 10, 0, 9);
        turns(word, 13);
        TwinThreads kind = Check.told("store 1 0 0;out 1;halt;");
        go(kind, 1);
        flip(kind, 5, 0, 0);
        turns(kind, 13);
    }

    private static void alarmsOfPoints() {
        int[][] fours = {{0, 7, 31}, {1, 3, 0}, {2, 3, 31}, {3, 0, 0}, {4, 0, 5}, {5, 0, 4}};
        for (int[] f : fours) {
            TwinThreads x = Check.told("set 0 1;halt;");
            go(x, 2);
            flip(x, f[0], f[1], f[2]);
            CHECK.due("next() behind a flip of sort " + f[0], x.next(), 14);
            go(x, 1);
            CHECK.due("an alarm of a point is no step", x.count(15) + x.count(16), 2);
            CHECK.due("no point passed", x.count(2), 0);
        }
        TwinThreads steps = Check.told("set 0 0;halt;");
        go(steps, 1);
        flip(steps, 5, 0, 0);
        turns(steps, 15);
        String[] texts = {"load 0 1 0;", "zero 0 b;", "store 0 0 0;", "out 0;", "under 0 1 b;"};
        for (String text : texts) {
            TwinThreads x = Check.told(text + "at b;halt;jump b;");
            go(x, 1);
            flip(x, 5, 0, 1);
            turns(x, 0, 15);
        }
        int[][] sixes = {{9, 0}, {9, 5}, {10, 0}, {10, 31}, {11, 0}, {11, 5}, {12, 0}, {12, 31}};
        for (int[] s : sixes) {
            TwinThreads x = Check.told("store 0 1 0;halt;");
            go(x, 2);
            flip(x, s[0], 0, s[1]);
            turns(x, 16, 1, 0, 2, -2);
        }
        TwinThreads both = Check.told("set 0 0;store 0 1 0;halt;");
        go(both, 4);
        flip(both, 12, 0, 0);
        flip(both, 1, 0, 0);
        CHECK.due("4 goes ahead of 6", both.next(), 14);
    }

    private static void alarmRows() {
        TwinThreads x = Check.told("tries 9;set 0 1;out 0;halt;");
        x.stick(0, 0, 0, false);
        CHECK.due("turns", x.go(300), 36);
        CHECK.due("down", x.count(13), 1);
        CHECK.due("alarms", x.count(3), 9);
        CHECK.due("alarms since the point", x.count(4), 9);
        for (int k = 0; k < 8; k++) {
            CHECK.due("alarm(" + k + ", 0)", x.alarm(k, 0), 3);
            CHECK.due("alarm(" + k + ", 1)", x.alarm(k, 1), 36 - 4 * k);
            CHECK.due("alarm(" + k + ", 2)", x.alarm(k, 2), 2);
            CHECK.due("alarm(" + k + ", 3)", x.alarm(k, 3), 1);
        }
        CHECK.due("alarm(8, 0)", x.alarm(8, 0), -1);
        CHECK.due("alarm(-1, 0)", x.alarm(-1, 0), -1);
        CHECK.due("alarm(0, 4)", x.alarm(0, 4), -1);
        CHECK.due("alarm(0, -1)", x.alarm(0, -1), -1);
        CHECK.due("steps of the leader", x.count(15), 18);
        CHECK.due("steps of the trailer", x.count(16), 18);
        CHECK.due("next() when down", x.next(), -2);
    }

    private static void downBehindTries() {
        TwinThreads x = Check.told("tries 2;span 1;set 0 1;set 1 1;halt;");
        go(x, 1);
        flip(x, 1, 7, 4);
        go(x, 2);
        CHECK.due("one alarm", x.count(4), 1);
        go(x, 3);
        CHECK.due("a point: none since", x.count(4), 0);
        CHECK.due("all alarms", x.count(3), 1);
        go(x, 2);
        flip(x, 0, 5, 4);
        go(x, 1);
        CHECK.due("back at the point, not at the beginning", x.register(0, 0), 1);
        CHECK.due("back at the point", Check.thread(x, 1, 0), 1);
        CHECK.due("not down", x.count(13), 0);
        flip(x, 0, 5, 4);
        CHECK.due("up to down", x.go(300), 3);
        CHECK.due("down", x.count(13), 1);
        CHECK.due("not done", x.count(12), 0);
        CHECK.due("flips when down", x.flip(0, 0, 0), true);
        CHECK.due("no turn when down", x.go(1), 0);
    }

    private static void flips() {
        TwinThreads x = Check.told("slack 8 9;store 0 0 1;load 1 0 1;zero 0 a;at a;load 1 0 2;out 1;halt;");
        go(x, 5);
        CHECK.due("LOADS, BRANCHES, HELD", x.count(7) * 100 + x.count(8) * 10 + x.count(9), 212);
        int[][] wrong = {{-1, 0, 0}, {13, 0, 0}, {0, 8, 0}, {0, -1, 0}, {0, 0, 32}, {0, 0, -1}, {1, 8, 0}, {2, 4, 0}, {3, 4, 0},
            {3, 0, 32}, {4, 1, 0}, {4, 0, 6}, {5, 1, 0}, {5, 0, 6}, {4, -1, 0}, {6, 2, 0}, {6, 0, 5}, {6, -1, 0}, {7, 2, 0},
            {7, 0, 32}, {8, 1, 0}, {8, 0, 1}, {9, 2, 0}, {9, 0, 6}, {10, 2, 0}, {10, 0, 32}, {11, 0, 0}, {12, 0, 0},
            {9, -1, 0}, {11, -1, 0}, {Integer.MAX_VALUE, 0, 0}, {0, Integer.MAX_VALUE, 0}, {0, 0, Integer.MAX_VALUE},
            {6, Integer.MAX_VALUE, 0}, {6, Integer.MIN_VALUE, 0}};
        for (int[] w : wrong) {
            CHECK.due("flip(" + w[0] + ", " + w[1] + ", " + w[2] + ")", x.flip(w[0], w[1], w[2]), false);
        }
        flip(x, 0, 7, 31);
        CHECK.due("sort 0", x.register(0, 7), 1 << 31);
        flip(x, 1, 6, 30);
        CHECK.due("sort 1", x.register(1, 6), 1 << 30);
        flip(x, 2, 3, 0);
        CHECK.due("sort 2", x.real(0, 3), 1);
        flip(x, 3, 0, 31);
        CHECK.due("sort 3", x.real(1, 0), 1 << 31);
        flip(x, 4, 0, 5);
        CHECK.due("sort 4", Check.thread(x, 0, 0), 5 + 32);
        flip(x, 5, 0, 0);
        CHECK.due("sort 5", Check.thread(x, 1, 0), 1);
        flip(x, 6, 1, 4);
        CHECK.due("sort 6", x.queued(0, 1, 0), 2 + 16);
        flip(x, 7, 1, 2);
        CHECK.due("sort 7", x.queued(0, 1, 1), 4);
        flip(x, 8, 0, 0);
        CHECK.due("sort 8", x.queued(1, 0, 0), 0);
        flip(x, 9, 1, 0);
        CHECK.due("sort 9", x.queued(2, 1, 0), 33);
        flip(x, 10, 0, 3);
        CHECK.due("sort 10", x.queued(2, 0, 1), 8);
        flip(x, 0, 7, 31);
        CHECK.due("sort 0 again", x.register(0, 7), 0);
        TwinThreads y = Check.told("store 0 0 1;out 0;halt;");
        go(y, 3);
        flip(y, 11, 0, 5);
        CHECK.due("sort 11", y.queued(2, 0, 3), 33);
        flip(y, 12, 0, 31);
        CHECK.due("sort 12", y.queued(2, 0, 4), 1 << 31);
        CHECK.due("one that isn't compared", y.flip(12, 1, 0), false);
        CHECK.due("one that isn't compared", y.flip(11, 1, 0), false);
    }

    private static void flipsThatLeaveTogether() {
        TwinThreads x = Check.told("set 0 9;store 0 1 3;out 0;halt;");
        go(x, 6);
        flip(x, 9, 0, 2);
        flip(x, 11, 0, 2);
        flip(x, 10, 1, 1);
        flip(x, 12, 1, 1);
        turns(x, 2);
        CHECK.due("the flipped address", x.memory(7), 9);
        CHECK.due("the told address", x.memory(3), 0);
        CHECK.due("the flipped word", x.output(0), 11);
        TwinThreads y = Check.told("set 0 9;store 0 1 3;out 0;halt;");
        go(y, 6);
        flip(y, 9, 0, 5);
        flip(y, 11, 0, 5);
        flip(y, 9, 1, 5);
        flip(y, 11, 1, 5);
        turns(y, 2);
        CHECK.due("a store that left to OUTPUT", y.output(0), 9);
        CHECK.due("an out that left to MEMORY", y.memory(0), 9);
        CHECK.due("count(10)", y.count(10), 1);
        CHECK.due("count(11)", y.count(11), 1);
        CHECK.due("an output's ADDRESS in JOURNAL", y.left(0, 0), 32);
        CHECK.due("takes()", y.takes(), 24);
    }

    private static void outputs() {
        TwinThreads x = Check.told("set 1 1;at a;out 0;add 0 0 1;jump a;");
        for (int k = 0; k < 3; k++) {
            go(x, 300);
        }
        int came = x.count(11);
        CHECK.due("more than 40 came", came > 41, true);
        for (int k = 0; k < 40; k++) {
            CHECK.due("output(" + k + ")", x.output(k), came - 40 + k);
        }
        CHECK.due("output(40)", x.output(40), 0);
        CHECK.due("output(-1)", x.output(-1), 0);
        CHECK.due("journal", x.count(14), 16);
        CHECK.due("takes()", x.takes(), 192);
        for (int k = 0; k < 16; k++) {
            CHECK.due("left(" + k + ", 1)", x.left(k, 1), came - 16 + k);
        }
        CHECK.due("left(16, 1)", x.left(16, 1), 0);
    }

    private static void plainThread() {
        TwinThreads x = Check.told("span 1;data 4 6;set 1 1;at a;load 2 3 4;out 2;sub 2 2 1;store 2 3 4;real 1 2;zero 2 b;jump a;at b;halt;");
        CHECK.due("plain(0, 0)", x.plain(0, 0), 0);
        CHECK.due("plain(0, 1)", x.plain(0, 1), 0);
        CHECK.due("plain(0, 2)", x.plain(0, 2), 0);
        CHECK.due("plain(7, 0)", x.plain(7, 0), 7);
        CHECK.due("plain(8, 0)", x.plain(8, 0), 1);
        CHECK.due("plain(999, 0)", x.plain(999, 0), 8);
        CHECK.due("plain(999, 1)", x.plain(999, 1), 1);
        CHECK.due("plain(999, 2)", x.plain(999, 2), 42);
        CHECK.due("plain(41, 1)", x.plain(41, 1), 0);
        CHECK.due("plain(42, 1)", x.plain(42, 1), 1);
        CHECK.due("plain(999, 3)", x.plain(999, 3), 6);
        CHECK.due("plain(2, 3)", x.plain(2, 3), 0);
        CHECK.due("plain(3, 3)", x.plain(3, 3), 1);
        for (int k = 0; k < 6; k++) {
            CHECK.due("output " + k, x.plainOf(999, 3, k), 6 - k);
        }
        CHECK.due("output 6", x.plainOf(999, 3, 6), 0);
        CHECK.due("output 1 ahead of it", x.plainOf(9, 3, 1), 0);
        CHECK.due("output 1", x.plainOf(10, 3, 1), 5);
        CHECK.due("memory", x.plainOf(4, 2, 4), 6);
        CHECK.due("memory", x.plainOf(5, 2, 4), 5);
        CHECK.due("register", x.plainOf(5, 0, 2), 5);
        CHECK.due("float", x.plainOf(6, 1, 1), Float.floatToIntBits(5f));
        CHECK.due("nothing is changed", x.memory(4), 6);
        TwinThreads last = Check.told("data 31 8;set 7 6;real 3 7;halt;");
        CHECK.due("memory(31)", last.memory(31), 8);
        CHECK.due("word 31", last.plainOf(9, 2, 31), 8);
        CHECK.due("register 7", last.plainOf(9, 0, 7), 6);
        CHECK.due("float 3", last.plainOf(9, 1, 3), Float.floatToIntBits(6f));
        TwinThreads many = Check.told("set 0 7;at a;out 0;out 0;out 0;out 0;out 0;out 0;out 0;out 0;out 0;jump a;");
        CHECK.due("plain(999, 3)", many.plain(999, 3), 899);
        CHECK.due("the last output", many.plainOf(999, 3, 898), 7);
        CHECK.due("behind the last", many.plainOf(999, 3, 899), 0);
        x.stick(0, 1, 0, false);
        CHECK.due("nothing is STUCK in PLAIN", x.plainOf(1, 0, 1), 1);
    }

    private static void wrongOnes() {
        TwinThreads x = Check.told("data 3 5;set 0 7;halt;");
        go(x, 1);
        CHECK.due("thread(-1, 0)", Check.thread(x, -1, 0), -1001);
        CHECK.due("thread(2, 0)", Check.thread(x, 2, 0), -1001);
        CHECK.due("thread(2, 4)", Check.thread(x, 2, 4), -1001);
        CHECK.due("thread(0, 4)", Check.thread(x, 0, 4), -1002);
        CHECK.due("thread(1, -1)", Check.thread(x, 1, -1), -1002);
        CHECK.due("register(0, 0)", x.register(0, 0), 7);
        CHECK.due("register(2, 0)", x.register(2, 0), 0);
        CHECK.due("register(-1, 0)", x.register(-1, 0), 0);
        CHECK.due("register(0, 8)", x.register(0, 8), 0);
        CHECK.due("register(0, -1)", x.register(0, -1), 0);
        CHECK.due("real(0, 4)", x.real(0, 4), 0);
        CHECK.due("real(2, 0)", x.real(2, 0), 0);
        CHECK.due("real(0, -1)", x.real(0, -1), 0);
        CHECK.due("memory(3)", x.memory(3), 5);
        CHECK.due("memory(-1)", x.memory(-1), 0);
        CHECK.due("memory(32)", x.memory(32), 0);
        CHECK.due("plain(-1, 0)", x.plain(-1, 0), -1);
        CHECK.due("plain(1000, 0)", x.plain(1000, 0), -1);
        CHECK.due("plain(0, -1)", x.plain(0, -1), -1);
        CHECK.due("plain(0, 4)", x.plain(0, 4), -1);
        int[][] none = {{-1, 0, 0}, {1000, 0, 0}, {9, -1, 0}, {9, 4, 0}, {9, 0, 8}, {9, 0, -1}, {9, 1, 4}, {9, 2, 32}, {9, 2, -1},
            {9, 3, -1}, {9, 3, 0}, {9, 3, Integer.MAX_VALUE}};
        for (int[] n : none) {
            CHECK.due("plainOf(" + n[0] + ", " + n[1] + ", " + n[2] + ")", x.plainOf(n[0], n[1], n[2]), 0);
        }
        int[][] queued = {{-1, 0, 0}, {3, 0, 0}, {0, 0, 0}, {1, 0, 0}, {2, 0, 0}, {0, -1, 0}, {2, 8, 0}, {1, Integer.MAX_VALUE, 0}};
        for (int[] q : queued) {
            CHECK.due("queued(" + q[0] + ", " + q[1] + ", " + q[2] + ")", x.queued(q[0], q[1], q[2]), 0);
        }
    }
}
