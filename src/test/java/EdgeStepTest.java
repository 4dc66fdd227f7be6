/** What a STEP does (part 2 of the Terms), by promises 8 to 11, 13, 16 and 17: a test for each boundary. */
final class EdgeStepTest extends Edge {
    private static final int LOST = 2143289344;
    private static final int INFINITE = 2139095040;
    private static final int MINUS_INFINITE = -8388608;
    private static final int MINUS_ZERO = MIN;
    // Register 2 is the least int, 3 is 1, 4 is the greatest int, 5 is -1.
    private static final String EXTREMES =
        "set 0 65536;set 1 32768;mul 2 0 1;set 3 1;sub 4 2 3;sub 5 6 3;";

    public static void main(String[] args) {
        runAll(EdgeStepTest.class, args);
    }

    /** Does the TEXT to its end by both and by PLAIN; the REGISTER must be this in all three. */
    private static void registers(String text, int number, int word) {
        TwinThreads x = told("span 40;" + text);
        x.go(300);
        due("count(12), DONE: " + text, x.count(12), 1);
        due("register(0, " + number + "): " + text, x.register(0, number), word);
        due("register(1, " + number + "): " + text, x.register(1, number), word);
        due("plainOf(999, 0, " + number + "): " + text, x.plainOf(999, 0, number), word);
    }

    private static void floats(String text, int number, int bits) {
        TwinThreads x = told("span 40;" + text);
        x.go(300);
        due("count(12), DONE: " + text, x.count(12), 1);
        due("real(0, " + number + "): " + text, x.real(0, number), bits);
        due("real(1, " + number + "): " + text, x.real(1, number), bits);
        due("plainOf(999, 1, " + number + "): " + text, x.plainOf(999, 1, number), bits);
    }

    /** A PAIR whose FLOATS 0 and 1 are these, then the INSTRUCTION, to its end. */
    private static TwinThreads byFloats(String instruction, int one, int other) {
        TwinThreads x = told(instruction);
        for (int sort = 2; sort < 4; sort++) {
            lay(x, sort, 0, one);
            lay(x, sort, 1, other);
        }
        x.go(300);
        due("count(12), DONE: " + instruction, x.count(12), 1);
        return x;
    }

    private static void sum(int one, int other, int bits) {
        TwinThreads x = byFloats("plus 2 0 1;", one, other);
        due("plus of " + one + ", " + other, x.real(0, 2), bits);
        due("plus of " + one + ", " + other + " by the TRAILER", x.real(1, 2), bits);
        due("plus of " + other + ", " + one, byFloats("plus 2 1 0;", one, other).real(0, 2), bits);
    }

    private static void product(int one, int other, int bits) {
        TwinThreads x = byFloats("times 2 0 1;", one, other);
        due("times of " + one + ", " + other, x.real(0, 2), bits);
        due("times of " + one + ", " + other + " by the TRAILER", x.real(1, 2), bits);
        due("times of " + other + ", " + one, byFloats("times 2 1 0;", one, other).real(0, 2), bits);
    }

    private static void whole(int bits, int number) {
        TwinThreads x = byFloats("whole 1 0;", bits, 0);
        due("whole of " + bits, x.register(0, 1), number);
        due("whole of " + bits + " by the TRAILER", x.register(1, 1), number);
    }

    private static int bits(double d) {
        return Float.floatToIntBits((float) d);
    }

    /** Promise 8, Terms 2: "its PLACE (0 .. 63; at first 0)" */
    static void promise08_placeAtFirst() {
        TwinThreads x = told("set 0 1;");
        due("the LEADER's PLACE", thread(x, 0, 0), 0);
        due("the TRAILER's PLACE", thread(x, 1, 0), 0);
        due("PLAIN's PLACE", x.plain(0, 0), 0);
        lay(x, 4, 0, 63);
        due("the LEADER's PLACE, all bits flipped", thread(x, 0, 0), 63);
    }

    /** Promise 9, Terms 2: "REGISTERS (32 bits), FLOATS (as 32 bits are of floats), all 0 at first" */
    static void promise09_all0AtFirst() {
        TwinThreads x = told("set 0 1;");
        for (int k = 0; k < 8; k++) {
            due("register " + k, x.register(0, k) | x.register(1, k) | x.plainOf(0, 0, k), 0);
            due("float " + k, x.real(0, k & 3) | x.real(1, k & 3) | x.plainOf(0, 1, k & 3), 0);
        }
    }

    /** Promise 8, Terms 2: "the PLACE is 1 more then [...], if it doesn't go elsewhere" (each INSTRUCTION) */
    static void promise08_oneMore() {
        String[] ones = {"set 0 1;", "add 0 1 2;", "sub 0 1 2;", "mul 0 1 2;", "xor 0 1 2;", "load 0 1 2;", "store 0 1 2;",
            "out 0;", "real 0 1;", "whole 0 1;", "bits 0 1;", "plus 0 1 2;", "times 0 1 2;", "less 0 0 a;", "under 0 0 a;"};
        for (String one : ones) {
            TwinThreads x = told(one + "halt;halt;at a;");
            go(x, 2);
            due("the LEADER's PLACE behind " + one, thread(x, 0, 0), 1);
            due("the TRAILER's PLACE behind " + one, thread(x, 1, 0), 1);
            due("PLAIN's PLACE behind " + one, x.plain(1, 0), 1);
        }
    }

    /** Promise 8, Terms 2: "It is HALTED, if a halt or no INSTRUCTION is at its PLACE (nothing is done there)" */
    static void promise08_halted() {
        TwinThreads x = told("halt;set 0 5;");
        due("at a halt", thread(x, 0, 2) + thread(x, 1, 2) + x.plain(0, 1), 3);
        due("no STEP is done there", x.plain(999, 2) + x.plain(999, 0) + x.plainOf(999, 0, 0), 0);
        turns(x, 2, -2);
        due("PLACE behind it all", thread(x, 0, 0) + thread(x, 1, 0) + x.register(0, 0), 0);
        due("STEPS", x.count(15) + x.count(16), 0);
        TwinThreads y = told("set 0 1;set 0 2;");
        go(y, 4);
        due("behind the last INSTRUCTION", thread(y, 0, 2) + thread(y, 1, 2), 2);
        due("behind the last of PLAIN", y.plain(2, 1), 1);
        due("at the last of PLAIN", y.plain(1, 1), 0);
    }

    /** Promise 8, Terms 2: "or no INSTRUCTION is at its PLACE" (at all of 0 .. 63) */
    static void promise08_noInstruction() {
        TwinThreads x = told(times(40, "set 0 1;"));
        TwinThreads y = told("set 0 1;");
        int last = 0;
        for (int place = 0; place < 64; place++) {
            for (int bit = 0; bit < 6; bit++) {
                if (((place ^ last) >> bit & 1) == 1) {
                    x.flip(4, 0, bit);
                    y.flip(5, 0, bit);
                }
            }
            last = place;
            due("HALTED at " + place + " of 40", thread(x, 0, 2), place < 40 ? 0 : 1);
            due("HALTED at " + place + " of 1", thread(y, 1, 2), place < 1 ? 0 : 1);
        }
        TwinThreads none = new TwinThreads();
        due("HALTED of none", thread(none, 0, 2) + thread(none, 1, 2) + none.plain(0, 1), 3);
    }

    /** Promise 9, Terms 2: "the first one is what comes of the other two" (no INSTRUCTION changes any other one) */
    static void promise09_noOther() {
        String[] ones = {"set 2 9;", "add 2 0 1;", "sub 2 0 1;", "mul 2 0 1;", "xor 2 0 1;", "load 2 0 1;", "store 2 0 1;", "out 2;",
            "real 2 1;", "whole 2 1;", "bits 2 1;", "plus 2 0 1;", "times 2 0 1;", "jump w;at w;", "zero 2 w;at w;",
            "less 2 1 w;at w;", "under 2 1 w;at w;"};
        StringBuilder ahead = new StringBuilder("span 40;");
        for (int k = 0; k < 8; k++) {
            ahead.append("set ").append(k).append(' ').append(k + 10).append(';');
        }
        for (int k = 0; k < 4; k++) {
            ahead.append("real ").append(k).append(' ').append(k + 4).append(';');
        }
        for (String one : ones) {
            TwinThreads x = told(ahead + one + "halt;");
            go(x, 26);
            boolean ofFloat = one.startsWith("real") || one.startsWith("plus") || one.startsWith("times");
            for (int k = 0; k < 8; k++) {
                int register = k == 2 && !ofFloat ? x.register(0, 2) : k + 10;
                int real = k > 3 ? 0 : k == 2 && ofFloat ? x.real(0, 2) : Float.floatToIntBits(k + 14);
                due("register " + k + " behind " + one, x.register(0, k), register);
                due("the TRAILER's register " + k + " behind " + one, x.register(1, k), register);
                due("PLAIN's register " + k + " behind " + one, x.plainOf(13, 0, k), register);
                due("float " + k + " behind " + one, x.real(0, k), real);
                due("the TRAILER's float " + k + " behind " + one, x.real(1, k), real);
                due("PLAIN's float " + k + " behind " + one, x.plainOf(13, 1, k), real);
            }
            due("MEMORY behind " + one, x.memory(11), 0);
        }
    }

    /** Promise 9, Terms 2: "set: the REGISTER is the number" */
    static void promise09_set() {
        registers("set 3 99999;set 3 0;", 3, 0);
        registers("set 3 0;set 3 99999;", 3, 99999);
    }

    /** Promise 9, Terms 2: "add, sub, mul, xor: the first one is what comes of the other two, the lowest 32 bits" (add) */
    static void promise09_add() {
        registers(EXTREMES + "add 7 4 3;", 7, MIN);
        registers(EXTREMES + "add 7 2 2;", 7, 0);
        registers(EXTREMES + "add 7 4 4;", 7, -2);
        registers(EXTREMES + "add 7 2 5;", 7, MAX);
        registers(EXTREMES + "add 4 4 4;", 4, -2);
    }

    /** Promise 9, Terms 2: "what comes of the other two, the lowest 32 bits" (sub) */
    static void promise09_sub() {
        registers(EXTREMES + "sub 7 2 3;", 7, MAX);
        registers(EXTREMES + "sub 7 3 2;", 7, MIN + 1);
        registers(EXTREMES + "sub 7 6 2;", 7, MIN);
        registers(EXTREMES + "sub 7 4 5;", 7, MIN);
        registers(EXTREMES + "sub 7 2 2;", 7, 0);
        registers("set 0 7;set 1 9;sub 2 0 1;", 2, -2);
    }

    /** Promise 9, Terms 2: "what comes of the other two, the lowest 32 bits" (mul) */
    static void promise09_mul() {
        registers(EXTREMES + "mul 7 0 0;", 7, 0);
        registers(EXTREMES + "mul 7 0 1;", 7, MIN);
        registers(EXTREMES + "mul 7 4 4;", 7, 1);
        registers(EXTREMES + "mul 7 2 5;", 7, MIN);
        registers("set 0 65537;mul 1 0 0;", 1, 131073);
        registers("set 0 99999;mul 1 0 0;mul 1 1 0;", 1, (int) (99999L * 99999L * 99999L));
    }

    /** Promise 9, Terms 2: "what comes of the other two" (xor, of all 32 bits) */
    static void promise09_xor() {
        registers(EXTREMES + "xor 7 2 5;", 7, MAX);
        registers(EXTREMES + "xor 7 2 4;", 7, -1);
        registers(EXTREMES + "xor 7 5 5;", 7, 0);
        registers("set 0 12;set 1 10;xor 0 0 1;", 0, 6);
    }

    /** Promise 13, Terms 2: "the second REGISTER and the number, of 32 the rest (0 at least)" */
    static void promise13_address() {
        String[] sums = {"load 7 6 0;", "load 7 6 31;", "load 7 3 31;", "load 7 3 30;", "load 7 5 0;", "load 7 5 1;",
            "load 7 5 31;", "load 7 2 0;", "load 7 2 31;", "load 7 4 0;", "load 7 4 1;", "load 7 4 31;"};
        int[] due = {0, 31, 0, 31, 31, 0, 30, 0, 31, 31, 0, 30};
        for (int k = 0; k < sums.length; k++) {
            for (String word : new String[] {"load", "store"}) {
                TwinThreads x = told("span 40;slack 8 9;" + EXTREMES + sums[k].replace("load", word));
                go(x, 7);
                due("the ADDRESS of " + sums[k], x.queued(word.equals("load") ? 0 : 2, 0, 0), due[k]);
                x.go(300);
                due("DONE", x.count(12), 1);
            }
        }
    }

    /** Promise 17, Terms 2: "the second REGISTER and the number, of 32 the rest (0 at least)" (by PLAIN) */
    static void promise17_address() {
        String[] numbers = {"6 0", "6 31", "3 31", "5 0", "5 1", "5 31", "2 31", "4 31"};
        int[] due = {0, 31, 0, 31, 0, 30, 31, 30};
        for (int k = 0; k < due.length; k++) {
            TwinThreads x = told("data " + due[k] + " 77;" + EXTREMES + "load 7 " + numbers[k] + ";store 3 " + numbers[k] + ";");
            due("load of " + numbers[k], x.plainOf(99, 0, 7), 77);
            due("store of " + numbers[k], x.plainOf(99, 2, due[k]), 1);
        }
    }

    /** Promise 10, Terms 2: "real: the float nearest to the REGISTER (of two as near the even one)" */
    static void promise10_real() {
        int[] words = {0, 1, -1, 16777215, 16777216, 16777217, 16777218, 16777219, 16777221, 16777223, -16777217, -16777219,
            33554433, 33554434, 33554435, 33554438, 33554439, 99999, MAX, MAX - 63, MAX - 64, MAX - 191, MAX - 192, MIN,
            MIN + 64, MIN + 65, MIN + 128};
        for (int word : words) {
            TwinThreads x = told("real 3 5;");
            lay(x, 0, 5, word);
            lay(x, 1, 5, word);
            go(x, 3);
            due("real of " + word, x.real(0, 3), Float.floatToIntBits((float) word));
            due("real of " + word + " by the TRAILER", x.real(1, 3), Float.floatToIntBits((float) word));
        }
        due("16777217 lies between, 16777216 is even", Float.floatToIntBits((float) 16777217), 0x4B800000);
        due("16777219 lies between, 16777220 is even", Float.floatToIntBits((float) 16777219), 0x4B800002);
        floats("set 0 16777;set 1 1000;mul 2 0 1;set 3 217;add 2 2 3;real 0 2;", 0, 0x4B800000);
        floats("set 0 16777;set 1 1000;mul 2 0 1;set 3 219;add 2 2 3;real 0 2;", 0, 0x4B800002);
        floats(EXTREMES + "real 1 2;", 1, 0xCF000000);
        floats(EXTREMES + "real 1 4;", 1, 0x4F000000);
        floats(EXTREMES + "real 1 5;", 1, 0xBF800000);
    }

    /** Promise 9, Terms 2: "bits: the FLOAT's bits" (of -0, of LOST ones, too) */
    static void promise09_bits() {
        for (int word : new int[] {0, MINUS_ZERO, 1, -1, 0x7F800000, 0x7F800001, 0xFF800000, LOST, 0x3F800000}) {
            TwinThreads x = byFloats("bits 7 0;", word, 0);
            due("bits of " + word, x.register(0, 7), word);
            due("bits of " + word + " by the TRAILER", x.register(1, 7), word);
        }
        registers("set 0 1;real 3 0;bits 7 3;", 7, 0x3F800000);
    }

    /** Promise 9, Terms 2: "whole: towards 0" */
    static void promise09_wholeTowards0() {
        double[] floats = {0, -0.0, 0.5, -0.5, 0.99999994, -0.99999994, 1, -1, 1.5, -1.5, 1.9999999, -1.9999999, 2.5, -2.5,
            8388607.5, -8388607.5, 16777215, 16777216, 1e-40, -1e-40};
        for (double d : floats) {
            whole(bits(d), (int) (float) d);
        }
    }

    /** Promise 9, Terms 2: "the greatest or least int beyond these" */
    static void promise09_wholeBeyond() {
        whole(0x4EFFFFFF, 2147483520);
        whole(0x4F000000, MAX);
        whole(0x4F000001, MAX);
        whole(0x5F000000, MAX);
        whole(0x7F7FFFFF, MAX);
        whole(0xCEFFFFFF, -2147483520);
        whole(0xCF000000, MIN);
        whole(0xCF000001, MIN);
        whole(0xDF000000, MIN);
        whole(0xFF7FFFFF, MIN);
        registers("set 0 99999;real 0 0;times 0 0 0;whole 1 0;", 1, MAX);
        registers("set 0 99999;real 0 0;sub 1 1 0;real 1 1;times 0 0 1;whole 1 0;", 1, MIN);
    }

    /** Promise 9, Terms 2: "0 of a LOST one" (a FLOAT whose exponent is of ones alone) */
    static void promise09_wholeOfLost() {
        whole(INFINITE, 0);
        whole(MINUS_INFINITE, 0);
        whole(LOST, 0);
        whole(0x7F800001, 0);
        whole(0xFFFFFFFF, 0);
        registers("set 0 1;set 1 99999;real 0 1;times 0 0 0;times 0 0 0;times 0 0 0;whole 0 0;", 0, 0);
    }

    /** Promise 10, Terms 2: "plus, times: the nearest float (of two as near the even one" (plus) */
    static void promise10_plusNearest() {
        sum(bits(16777216), bits(1), bits(16777216));
        sum(bits(16777218), bits(1), bits(16777220));
        sum(bits(16777216), bits(1.0000001), bits(16777218));
        sum(bits(-16777216), bits(-1), bits(-16777216));
        sum(bits(16777216), bits(-0.5), bits(16777216));
        sum(bits(16777216), bits(-0.50000006), bits(16777215));
        sum(bits(16777216), bits(-1.5), bits(16777214));
        sum(bits(1), bits(-0.99999994), 0x33800000);
        sum(0x007FFFFF, 1, 0x00800000);
        sum(0x00800000, 0x80000001, 0x007FFFFF);
        sum(1, 1, 2);
        sum(bits(1e30), bits(1), bits(1e30));
        sum(bits(1e30), 1, bits(1e30));
        floats("set 0 16777;set 1 1000;mul 2 0 1;set 3 216;add 2 2 3;real 0 2;set 4 1;real 1 4;plus 2 0 1;", 2, 0x4B800000);
        floats("set 0 16777;set 1 1000;mul 2 0 1;set 3 218;add 2 2 3;real 0 2;set 4 1;real 1 4;plus 2 0 1;", 2, 0x4B800002);
    }

    /** Promise 10, Terms 2: "plus, times: the nearest float (of two as near the even one" (times) */
    static void promise10_timesNearest() {
        int[] odd = {bits(1), bits(3), bits(-7), 0x3F800001, 0x3F800003, 0x3FFFFFFF, 0x3F000001, 1, 2, 0x007FFFFF, 0x00800001,
            0x1F800000, 0x20000001, 0x3F000000, 0xBF000000, 0x4B7FFFFF};
        for (int one : odd) {
            for (int other : odd) {
                TwinThreads x = byFloats("times 2 0 1;", one, other);
                int due = Float.floatToIntBits(Float.intBitsToFloat(one) * Float.intBitsToFloat(other));
                due("times of " + one + ", " + other, x.real(0, 2), due);
            }
        }
        product(0x3F800001, 0x3FC00000, 0x3FC00002);
        product(1, 0x3F000000, 0);
        product(3, 0x3F000000, 2);
        product(0x80000001, 0x3F000000, MINUS_ZERO);
        floats("set 0 4097;real 0 0;times 1 0 0;", 1, bits(4097.0 * 4097.0));
        floats("set 0 4097;set 1 4099;real 0 0;real 1 1;times 2 0 1;", 2, bits(4097.0 * 4099.0));
    }

    /** Promise 10, Terms 2: "signs of 0" (plus) */
    static void promise10_plusSignsOf0() {
        sum(0, 0, 0);
        sum(0, MINUS_ZERO, 0);
        sum(MINUS_ZERO, MINUS_ZERO, MINUS_ZERO);
        sum(bits(1), bits(-1), 0);
        sum(bits(1), MINUS_ZERO, bits(1));
        sum(bits(-1), 0, bits(-1));
        sum(1, 0x80000001, 0);
    }

    /** Promise 10, Terms 2: "signs of 0" (times) */
    static void promise10_timesSignsOf0() {
        product(0, 0, 0);
        product(0, MINUS_ZERO, MINUS_ZERO);
        product(MINUS_ZERO, MINUS_ZERO, 0);
        product(bits(-5), 0, MINUS_ZERO);
        product(bits(-5), MINUS_ZERO, 0);
        product(bits(5), MINUS_ZERO, MINUS_ZERO);
        product(1, 1, 0);
        product(1, 0x80000001, MINUS_ZERO);
        floats("set 0 1;sub 1 1 0;real 1 1;times 2 0 1;", 2, MINUS_ZERO);
    }

    /** Promise 10, Terms 2: "what is beyond the greatest, too: 2139095040 or -8388608" (plus) */
    static void promise10_plusBeyond() {
        sum(0x7F7FFFFF, 0x7F7FFFFF, INFINITE);
        sum(0xFF7FFFFF, 0xFF7FFFFF, MINUS_INFINITE);
        sum(0x7F7FFFFF, 0x73000000, INFINITE);
        sum(0x7F7FFFFF, 0x72FFFFFF, 0x7F7FFFFF);
        sum(0xFF7FFFFF, 0xF3000000, MINUS_INFINITE);
        sum(0xFF7FFFFF, 0xF2FFFFFF, 0xFF7FFFFF);
        sum(0x7F7FFFFF, 0xFF7FFFFF, 0);
    }

    /** Promise 10, Terms 2: "what is beyond the greatest, too: 2139095040 or -8388608" (times) */
    static void promise10_timesBeyond() {
        product(0x7F7FFFFF, 0x40000000, INFINITE);
        product(0xFF7FFFFF, 0x40000000, MINUS_INFINITE);
        product(0x7F7FFFFF, 0x7F7FFFFF, INFINITE);
        product(0xFF7FFFFF, 0xFF7FFFFF, INFINITE);
        product(0x7F7FFFFF, 0x3F800000, 0x7F7FFFFF);
        product(0x7F7FFFFF, 0x3F800001, INFINITE);
        product(0x5F800000, 0x5F7FFFFF, 0x7F7FFFFF);
        product(0x5F800000, 0x5F800000, INFINITE);
        String square = "times 0 0 0;";
        float fourth = 99999f * 99999f * (99999f * 99999f);
        floats("set 0 99999;real 0 0;" + times(2, square), 0, bits(fourth));
        floats("set 0 99999;real 0 0;" + times(3, square), 0, INFINITE);
        floats("set 0 99999;real 0 0;" + times(2, square) + "sub 1 1 0;real 1 1;times 1 1 1;times 2 0 0;", 2, INFINITE);
    }

    /** Promise 10, Terms 2: "2143289344, if one of the two is LOST" */
    static void promise10_lost() {
        int[] lost = {INFINITE, MINUS_INFINITE, LOST, 0x7F800001, 0xFFFFFFFF, 0x7FFFFFFF};
        for (int one : lost) {
            for (int other : new int[] {0, bits(1), 0xFF7FFFFF, one}) {
                sum(one, other, LOST);
                product(one, other, LOST);
            }
        }
        sum(INFINITE, MINUS_INFINITE, LOST);
        product(INFINITE, 0, LOST);
        floats("set 0 99999;real 0 0;times 0 0 0;times 0 0 0;times 0 0 0;times 1 0 0;", 1, LOST);
        floats("set 0 99999;real 0 0;times 0 0 0;times 0 0 0;times 0 0 0;plus 1 0 2;", 1, LOST);
    }

    /** Whether the INSTRUCTION goes to W, by PLAIN, by BRANCHES and by both THREADS. */
    private static void goes(String ahead, String instruction, boolean due) {
        TwinThreads x = told("span 40;slack 0 1;" + ahead + instruction + " w;set 7 1;at w;halt;");
        int steps = x.count(0) - 3;
        due("by PLAIN: " + instruction, x.plainOf(999, 0, 7), due ? 0 : 1);
        due("PLAIN's PLACE: " + instruction, x.plain(steps + 1, 0), due ? steps + 2 : steps + 1);
        go(x, 2 * steps + 1);
        due("BRANCHES: " + instruction, x.queued(1, 0, 0), due ? 1 : 0);
        x.go(300);
        due("DONE: " + instruction, x.count(12), 1);
        due("by the LEADER: " + instruction, x.register(0, 7), due ? 0 : 1);
        due("by the TRAILER: " + instruction, x.register(1, 7), due ? 0 : 1);
    }

    /** Promise 13, Terms 2: "zero: to W, if the REGISTER is 0" (else the PLACE is 1 more) */
    static void promise13_zero() {
        goes("", "zero 0", true);
        goes("set 0 1;", "zero 0", false);
        goes(EXTREMES, "zero 2", false);
        goes(EXTREMES, "zero 5", false);
        goes("set 0 65536;", "zero 0", false);
    }

    /** Promise 13, Terms 2: "less: if the first is less than the second one" (not if they are the same) */
    static void promise13_less() {
        goes("", "less 0 1", false);
        goes("set 1 1;", "less 0 1", true);
        goes("set 1 1;", "less 1 0", false);
        goes(EXTREMES, "less 5 6", true);
        goes(EXTREMES, "less 6 5", false);
        goes(EXTREMES, "less 2 4", true);
        goes(EXTREMES, "less 4 2", false);
        goes(EXTREMES, "less 2 3", true);
        goes(EXTREMES, "less 4 4", false);
    }

    private static void under(int one, int other, boolean due) {
        TwinThreads x = byFloats("under 0 1 w;set 7 1;at w;halt;", one, other);
        due("under of " + one + ", " + other, x.register(0, 7), due ? 0 : 1);
        due("under of " + one + ", " + other + " by the TRAILER", x.register(1, 7), due ? 0 : 1);
    }

    /** Promise 13, Terms 2: "under likewise of FLOATS" (not if they are the same, nor -0 and 0) */
    static void promise13_under() {
        under(bits(1), bits(1), false);
        under(bits(1), 0x3F800001, true);
        under(0x3F800001, bits(1), false);
        under(bits(-1), bits(1), true);
        under(bits(1), bits(-1), false);
        under(bits(-2), bits(-1), true);
        under(bits(-1), bits(-2), false);
        under(0, MINUS_ZERO, false);
        under(MINUS_ZERO, 0, false);
        under(MINUS_ZERO, 1, true);
        under(0x80000001, 0, true);
        under(0xFF7FFFFF, 0x7F7FFFFF, true);
        goes("set 0 1;real 1 0;", "under 0 1", true);
        goes("set 0 1;real 1 0;", "under 1 0", false);
        goes("set 0 1;real 1 0;", "under 1 1", false);
    }

    /** Promise 13, Terms 2: "neither LOST" */
    static void promise13_underOfLost() {
        for (int lost : new int[] {INFINITE, MINUS_INFINITE, LOST, 0xFFC00000, 0x7F800001}) {
            under(lost, 0, false);
            under(0, lost, false);
            under(lost, 0x7F7FFFFF, false);
            under(0xFF7FFFFF, lost, false);
            under(lost, lost, false);
        }
        under(MINUS_INFINITE, INFINITE, false);
        goes("set 0 99999;real 1 0;times 1 1 1;times 1 1 1;times 1 1 1;", "under 0 1", false);
    }

    /** Promise 8, Terms 2: "jump: to W (where no INSTRUCTION is, it is HALTED there)" */
    static void promise08_jump() {
        TwinThreads x = told("set 0 1;jump w;set 0 2;at w;");
        go(x, 4);
        for (int which = 0; which < 2; which++) {
            due("PLACE", thread(x, which, 0), 3);
            due("HALTED", thread(x, which, 2), 1);
            due("register 0", x.register(which, 0), 1);
        }
        due("PLAIN's PLACE", x.plain(999, 0), 3);
        due("PLAIN's STEPS", x.plain(999, 2), 2);
        TwinThreads y = told("at w;" + times(39, "set 0 1;") + "jump e;at e;");
        due("PLACE 40", y.plain(999, 0), 40);
        due("HALTED at PLACE 40", y.plain(999, 1), 1);
        TwinThreads z = told("at w;jump w;");
        due("to itself", z.plain(999, 2) * 10 + z.plain(999, 0), 9990);
    }

    /** Promise 17, Terms 2: "load takes the word from the memory, store lays it there" (PLAIN by its own memory) */
    static void promise17_ownMemory() {
        TwinThreads x = told("data 9 5;load 0 7 9;store 0 7 10;load 1 7 10;store 1 7 31;load 2 7 31;");
        due("ahead of the store", x.plainOf(1, 2, 10), 0);
        due("behind it", x.plainOf(2, 2, 10), 5);
        due("memory 31", x.plainOf(9, 2, 31), 5);
        due("register 2", x.plainOf(9, 0, 2), 5);
        due("data stays", x.plainOf(9, 2, 9), 5);
        due("MEMORY is another one", x.memory(10), 0);
    }

    /** Promise 17, Terms 2: "out puts it behind OUTPUT" (of PLAIN) */
    static void promise17_outBehind() {
        TwinThreads x = told("set 0 5;out 0;set 0 6;out 0;out 7;");
        due("plain(1, 3)", x.plain(1, 3), 0);
        due("plain(2, 3)", x.plain(2, 3), 1);
        due("plain(9, 3)", x.plain(9, 3), 3);
        due("0", x.plainOf(9, 3, 0), 5);
        due("1", x.plainOf(9, 3, 1), 6);
        due("2", x.plainOf(9, 3, 2), 0);
    }
}
