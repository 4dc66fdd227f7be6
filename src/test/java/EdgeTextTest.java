/** Promises 1 to 5 with part 1 of the Terms: a test for each sentence that names a boundary. */
final class EdgeTextTest extends Edge {
    private static final String[] LANGUAGE = {"span", "slack", "queues", "tries", "seed", "data", "at", "set", "add", "sub",
        "mul", "xor", "load", "store", "out", "real", "whole", "bits", "plus", "times", "jump", "zero", "less", "under", "halt"};
    private static final int BLANKS = 0x20202020;
    private static final int HALT = 0x68616C74;

    public static void main(String[] args) {
        runAll(EdgeTextTest.class, args);
    }

    /** Promise 1: "A TEXT without LINES" */
    static void promise01_noLines() {
        TwinThreads x = new TwinThreads();
        due("count(0)", x.count(0), 0);
        due("thread(0, 2)", thread(x, 0, 2), 1);
        due("plain(999, 2)", x.plain(999, 2), 0);
        due("named(a)", x.named(Check.letters("a")), -1);
        for (int address = 0; address < 32; address++) {
            due("memory(" + address + ")", x.memory(address), 0);
        }
        due("longBy(8)", x.longBy(8), 1);
        due("go(300)", x.go(300), 1);
    }

    /** Promise 1: "an empty TAPE" */
    static void promise01_emptyTape() {
        TwinThreads x = new TwinThreads();
        due("text(1)", x.text(1), -2);
        due("text(0)", x.text(0), 0);
        due("feed()", x.feed(0, 0, 0, 0, 0), 20);
    }

    /** Promise 2: "four of each number, the highest first" */
    static void promise02_highestByteFirst() {
        TwinThreads x = new TwinThreads();
        due("feed()", x.feed(0x64617461, 0x20302031, 0x32333435, 0x3B646174, 0x6120313B), 20);
        due("feed()", x.feed(0x68616C74, 0x3B202020, BLANKS, BLANKS, BLANKS), 40);
        due("text(40), data 1 without a word", x.text(40), -1);
        due("fault(1)", x.fault(1), 19);
        due("feed()", x.feed(0x64617461, 0x20302031, 0x32333435, 0x3B646174, 0x61203120), 20);
        due("feed()", x.feed(0x3637383B, 0x68616C74, 0x3B202020, BLANKS, BLANKS), 40);
        due("text(29)", x.text(29), 3);
        due("memory(0)", x.memory(0), 12345);
        due("memory(1)", x.memory(1), 678);
    }

    /** Promise 2: "Twenty bytes come behind the TAPE, four of each number" (bytes of 128 and above, too) */
    static void promise02_bytesAbove127() {
        int[] signs = {128, 160, 255};
        for (int sign : signs) {
            for (int at = 0; at < 4; at++) {
                TwinThreads x = new TwinThreads();
                int mask = 255 << 24 - 8 * at;
                x.feed(HALT, 0x3B202020, BLANKS & ~mask | sign << 24 - 8 * at, 0x68616C74, 0x3B202020);
                due("text(20) by " + sign + " as byte " + at, x.text(20), -1);
                due("fault(0)", x.fault(0), 1);
                due("fault(1)", x.fault(1), 8 + at);
            }
        }
    }

    /** Promise 2: "Twenty bytes come behind the TAPE" */
    static void promise02_behindTheTape() {
        TwinThreads x = new TwinThreads();
        due("feed()", x.feed(BLANKS, BLANKS, BLANKS, BLANKS, 0x20206861), 20);
        due("feed()", x.feed(0x6C743B20, BLANKS, BLANKS, BLANKS, BLANKS), 40);
        due("text(40)", x.text(40), 1);
        due("count(0)", x.count(0), 1);
    }

    /** Promise 2: "how many it has" (up to 700) */
    static void promise02_upTo700() {
        TwinThreads x = new TwinThreads();
        for (int k = 1; k <= 35; k++) {
            due("feed() " + k, x.feed(BLANKS, BLANKS, BLANKS, BLANKS, BLANKS), 20 * k);
        }
        due("text(700)", x.text(700), 0);
    }

    /** Promise 2: "NONE, and none come, if it would have more than 700" */
    static void promise02_noneBeyond700() {
        TwinThreads x = new TwinThreads();
        for (int k = 1; k <= 35; k++) {
            x.feed(HALT, 0x3B202020, BLANKS, BLANKS, k < 35 ? BLANKS : 0x2073656E);
        }
        due("feed() 36", x.feed(0x3B3B3B3B, 0x3B3B3B3B, 0x3B3B3B3B, 0x3B3B3B3B, 0x3B3B3B3B), -1);
        due("feed() 37", x.feed(0, 0, 0, 0, 0), -1);
        due("text(701)", x.text(701), -2);
        due("text(700)", x.text(700), -1);
        due("fault(1), sen at the end", x.fault(1), 697);
        due("feed() of an empty TAPE", x.feed(HALT, 0x3B202020, BLANKS, BLANKS, BLANKS), 20);
        due("text(5)", x.text(5), 1);
    }

    private static TwinThreads fed() {
        TwinThreads x = new TwinThreads();
        x.feed(HALT, 0x3B68616C, 0x743B6861, 0x6C743B68, 0x616C743B);
        x.feed(0x3F3F3F3F, 0x3F3F3F3F, 0x3F3F3F3F, 0x3F3F3F3F, 0x3F3F3F3F);
        return x;
    }

    /** Promise 3: "The TAPE's first n bytes" (no more than these, up to its end) */
    static void promise03_firstBytes() {
        due("text(5)", fed().text(5), 1);
        due("text(10)", fed().text(10), 2);
        due("text(20)", fed().text(20), 4);
        TwinThreads x = fed();
        due("text(9)", x.text(9), -1);
        due("fault(1)", x.fault(1), 9);
        x = fed();
        due("text(21)", x.text(21), -1);
        due("fault(1)", x.fault(1), 20);
        x = new TwinThreads();
        due("a LINE that ends with the 700th byte", Check.tell(x, times(695, " ") + "halt;"), 1);
    }

    /** Promise 3: "(it is empty then)" */
    static void promise03_tapeIsEmptyThen() {
        TwinThreads x = fed();
        due("text(5)", x.text(5), 1);
        due("text(1)", x.text(1), -2);
        due("feed()", x.feed(HALT, 0x3B202020, BLANKS, BLANKS, BLANKS), 20);
        due("text(20)", x.text(20), 1);
    }

    /** Promise 3: "(it is empty then)" (with a FAULT, too) */
    static void promise03_tapeIsEmptyBehindAFault() {
        TwinThreads x = fed();
        due("text(6)", x.text(6), -1);
        due("text(1)", x.text(1), -2);
        due("feed()", x.feed(HALT, 0x3B202020, BLANKS, BLANKS, BLANKS), 20);
    }

    /** Promise 3: "The TAPE's first n bytes (it is empty then) are the TEXT" (n 0, too) */
    static void promise03_noBytes() {
        TwinThreads x = fed();
        due("text(20)", x.text(20), 4);
        x.feed(HALT, 0x3B202020, BLANKS, BLANKS, BLANKS);
        due("text(0)", x.text(0), 0);
        due("count(0)", x.count(0), 0);
        due("fault(0)", x.fault(0), 0);
        due("text(1) of an emptied TAPE", x.text(1), -2);
    }

    /** A PAIR in the midst of much: STUCK and flipped bits, ALARMS, POINTS, full queues, an IMAGE. */
    private static TwinThreads busy() {
        TwinThreads x = told("span 12;slack 2 9;queues 2 2 3;tries 9;seed 7;data 3 9;data 31 8;at a;set 0 5;out 0;store 0 7 4;"
            + "real 1 0;zero 6 b;at b;load 1 7 3;less 0 1 c;at c;out 1;store 1 7 5;load 2 7 31;zero 5 a;");
        go(x, 60);
        x.flip(0, 5, 0);
        go(x, 30);
        x.keep();
        x.stick(0, 4, 3, true);
        go(x, 3);
        due("POINTS", x.count(2) > 0, true);
        due("ALARMS", x.count(3) > 0, true);
        return x;
    }

    /** Promise 3: "FRESH" (a TEXT begins with all of it as new) */
    static void promise03_fresh() {
        TwinThreads x = busy();
        due("text()", Check.tell(x, "out 0;halt;"), 2);
        for (int which = 0; which < 2; which++) {
            for (int number = 0; number < 8; number++) {
                due("register", x.register(which, number), 0);
                due("real", x.real(which, number), 0);
            }
            due("PLACE", thread(x, which, 0), 0);
            due("STEPS", thread(x, which, 1), 0);
        }
        for (int k = 0; k < 40; k++) {
            due("memory", x.memory(k), 0);
            due("output", x.output(k), 0);
            due("queued", x.queued(k % 3, 0, 0) | x.queued(2, k, 1), 0);
        }
        due("LOADS", x.count(7), 0);
        due("BRANCHES", x.count(8), 0);
        due("HELD", x.count(9), 0);
        due("STUCK", x.count(17), 0);
        due("the TURNS of a new TEXT", x.go(300), 3);
        due("output(0)", x.output(0), 0);
    }

    /** Promise 3: "nothing counted" */
    static void promise03_nothingCounted() {
        TwinThreads x = busy();
        flip(x, 0, 7, 7);
        go(x, 20);
        due("ALARMS since the POINT", x.count(4) > 0, true);
        due("text()", Check.tell(x, "out 0;halt;"), 2);
        for (int what = 1; what < 18; what++) {
            due("count(" + what + ")", x.count(what), 0);
        }
        for (int what = 0; what < 4; what++) {
            due("alarm(0, " + what + ")", x.alarm(0, what), -1);
            due("left(0, " + what + ")", x.left(0, what), 0);
        }
        due("mean()", x.mean(), -2);
        due("compared()", x.compared(), 0);
        due("takes()", x.takes(), 0);
        go(x, 3);
        due("mean() behind three TURNS", x.mean(), Float.floatToIntBits(1 / 3f));
        due("compared()", x.compared(), 1);
    }

    /** Promise 3: "nothing counted" (when it was DONE or DOWN) */
    static void promise03_neitherDoneNorDown() {
        TwinThreads x = told("set 0 1;halt;");
        finish(x);
        due("text()", Check.tell(x, "tries 1;halt;"), 2);
        due("count(12)", x.count(12), 0);
        x.flip(0, 0, 0);
        go(x, 1);
        due("count(13)", x.count(13), 1);
        due("text()", Check.tell(x, "out 0;halt;"), 2);
        due("count(13)", x.count(13), 0);
        due("go(300)", x.go(300), 3);
    }

    /** Promise 3: "no IMAGE" */
    static void promise03_noImage() {
        TwinThreads x = busy();
        due("text()", Check.tell(x, "out 0;halt;"), 2);
        due("back()", x.back(), -1);
    }

    /** Promise 3: "are the TEXT" (nothing of earlier TEXTS stays in it: INSTRUCTIONS, names, words, what is untold) */
    static void promise03_nothingOfTheTextsAhead() {
        String full = "span 1;slack 7 9;queues 1 1 1;tries 1;seed 9;data 0 5;data 31 6;" + times(39, "out 0;") + "at a;jump a;";
        for (int ahead = 1; ahead <= 4; ahead++) {
            TwinThreads x = told(full);
            for (int k = 1; k < ahead; k++) {
                due("text() again", Check.tell(x, full), 48);
            }
            due("text()", Check.tell(x, "set 0 0;set 0 1;"), 2);
            due("named(a)", x.named(Check.letters("a")), -1);
            due("memory(0)", x.memory(0) + x.memory(31), 0);
            due("INSTRUCTIONS", x.count(0), 2);
            for (int bit = 0; bit < 6; bit++) {
                flip(x, 4, 0, bit);
                due("HALTED at " + thread(x, 0, 0), thread(x, 0, 2), thread(x, 0, 0) == 1 ? 0 : 1);
            }
            due("HALTED behind the last", x.plain(999, 2), 2);
            for (int what = 0; what < 3; what++) {
                due("seed of 0", x.chance(-1, 5, what), x.chance(0, 5, what));
            }
            due("another TEXT", Check.tell(x, "out 0;set 0 2;"), 2);
            stick(x, 0, 0, 0, true);
            turns(x, 1, 13, 1, 13, 1, 13, -2);
            due("one more", Check.tell(x, times(9, "set 0 1;")), 9);
            go(x, 16);
            due("a span of 8", thread(x, 0, 3) * 10 + thread(x, 1, 3), 11);
        }
    }

    /** Promise 3: "are the TEXT" (what earlier TEXTS told isn't told already, with a FAULT or without) */
    static void promise03_toldAnew() {
        TwinThreads x = new TwinThreads();
        String all = "span 1;slack 1 2;queues 1 1 1;tries 1;seed 1;data 7 1;at a;jump a;";
        for (int k = 0; k < 3; k++) {
            due("text()", Check.tell(x, all), 8);
            due("with a FAULT", Check.tell(x, all + "span"), -1);
            due("fault(0)", x.fault(0), 3);
            due("a W of an earlier TEXT", Check.tell(x, "jump a;"), -1);
            due("fault(0)", x.fault(0), 4);
        }
    }

    /** Promise 3: "how many LINES" (none, blanks alone, all sorts of them, as many as 700 bytes hold) */
    static void promise03_howManyLines() {
        fine("", 0);
        fine(" ", 0);
        fine("\n \n", 0);
        fine("halt;", 1);
        fine("span 1;slack 1 2;queues 1 1 1;tries 1;seed 1;data 0 1;at a;halt;", 8);
        StringBuilder text = new StringBuilder();
        int lines = 0;
        for (char c = 'a'; c <= 'z'; c++) {
            text.append("at ").append(c).append(';');
            lines++;
        }
        for (char c = 'b'; text.length() < 694; c++) {
            for (char d = 'a'; d <= 'z' && text.length() < 694; d++) {
                text.append("at ").append(c).append(d).append(';');
                lines++;
            }
        }
        fine(text.toString(), lines);
    }

    /** Promise 3: "NONE with a FAULT, all else stays" */
    static void promise03_allElseStays() {
        TwinThreads x = told("at a;set 0 5;out 0;jump a;");
        go(x, 20);
        x.keep();
        go(x, 3);
        stick(x, 1, 7, 7, true);
        int[] due = new int[18];
        for (int what = 0; what < 18; what++) {
            due[what] = x.count(what);
        }
        due("text() with a FAULT", Check.tell(x, "span 1;data 0 7;at b;halt;set 0 7;set 8 7;"), -1);
        for (int what = 0; what < 18; what++) {
            due("count(" + what + ")", x.count(what), due[what]);
        }
        due("named(a)", x.named(Check.letters("a")), 0);
        due("named(b)", x.named(Check.letters("b")), -1);
        due("memory(0)", x.memory(0), 0);
        due("register(0, 0)", x.register(0, 0), 5);
        due("register(1, 7)", x.register(1, 7), 128);
        due("plain(2, 3)", x.plain(2, 3), 1);
        due("longBy(8)", x.longBy(8), -2);
        due("turns come as told", x.go(4), 4);
        due("the IMAGE stays", x.back(), 20);
        due("turns come as told", x.go(17), 17);
    }

    /** Promise 3: "-2, and the TAPE stays: there are not so many" */
    static void promise03_notSoMany() {
        TwinThreads x = new TwinThreads();
        x.feed(HALT, 0x3B68616C, 0x743B6861, 0x6C743B68, 0x616C743B);
        due("text(21)", x.text(21), -2);
        due("text(700)", x.text(700), -2);
        due("text(MAX)", x.text(MAX), -2);
        due("feed()", x.feed(BLANKS, BLANKS, BLANKS, BLANKS, HALT), 40);
        due("text(41)", x.text(41), -2);
        due("text(20), the TAPE has stayed", x.text(20), 4);
    }

    /** Promise 3: "-2, and the TAPE stays: [...] n is below 0" */
    static void promise03_below0() {
        TwinThreads x = new TwinThreads();
        x.feed(HALT, 0x3B68616C, 0x743B6861, 0x6C743B68, 0x616C743B);
        due("text(-1)", x.text(-1), -2);
        due("text(-20)", x.text(-20), -2);
        due("text(MIN)", x.text(MIN), -2);
        due("text(20), the TAPE has stayed", x.text(20), 4);
    }

    /** Promise 3: "-2, and the TAPE stays" (and so does all else) */
    static void promise03_notTaken() {
        TwinThreads x = told("out 0;halt;");
        go(x, 2);
        x.keep();
        due("text(1)", x.text(1), -2);
        due("text(-1)", x.text(-1), -2);
        due("count(0)", x.count(0), 2);
        due("count(1)", x.count(1), 2);
        due("back()", x.back(), 2);
    }

    /** Promise 3, Terms 1: "{ LINE ';' }" */
    static void promise03_linesEndWithASemicolon() {
        fault("halt", 1, 4);
        fault("halt halt;", 1, 5);
        fault("halt;;", 1, 5);
        fault(";", 1, 0);
        fault("span 1 slack 1 2;", 1, 7);
        fault("halt,", 1, 4);
        fine("halt;halt;", 2);
    }

    /** Promise 3, Terms 1: "Words: small letters in a row" (none else) */
    static void promise03_smallLetters() {
        fault("Halt;", 1, 0);
        fault("HALT;", 1, 0);
        fault("haLt;", 1, 0);
        fault("ha lt;", 1, 0);
        fault("at A;", 1, 3);
        fault("at a_;", 1, 4);
        fault("at `;", 1, 3);
        fault("at {;", 1, 3);
        fault("at [;", 1, 3);
        fine("at az;jump az;", 2);
        fine("at za;jump za;", 2);
    }

    /** Promise 3, Terms 1: "W: one of 1 .. 6 letters" */
    static void promise03_oneToSixLetters() {
        fine("at a;jump a;", 2);
        fine("at z;zero 0 z;", 2);
        fine("at abcdef;jump abcdef;", 2);
        fine("at zzzzzz;under 0 1 zzzzzz;", 2);
        fault("at abcdefg;", 1, 3);
        fault("jump abcdefg;", 1, 5);
        fault("zero 0 aaaaaaa;", 1, 7);
        fault("at ;", 1, 3);
        fault("jump ;", 1, 5);
        fault("at " + times(80, "a") + ";", 1, 3);
    }

    /** Promise 3, Terms 1: "none of those of the language" */
    static void promise03_noneOfTheLanguage() {
        for (String w : LANGUAGE) {
            fault("at " + w + ";", 1, 3);
            fault("jump " + w + ";", 1, 5);
            fault("zero 0 " + w + ";", 1, 7);
            fault("less 0 0 " + w + ";", 1, 9);
            fault("under 0 0 " + w + ";", 1, 10);
            String more = w.length() < 6 ? w + "s" : w.substring(1);
            fine("at " + more + ";jump " + more + ";", 2);
            String less = w.substring(0, w.length() - 1);
            fine("at " + less + ";jump " + less + ";", 2);
        }
    }

    /** Promise 3, Terms 1: "N: digits" */
    static void promise03_digits() {
        fine("set 0 0000007;", 1);
        fine("set 0000 12345;", 1);
        fine("set 7 " + times(40, "0") + "99999;", 1);
        fault("set 0 -1;", 1, 6);
        fault("set 0 +1;", 1, 6);
        fault("set 0 1.5;", 1, 7);
        fault("set 0 1a;", 1, 7);
        fault("set 0 a;", 1, 6);
        fault("set 0 /;", 1, 6);
        fault("set 0 :;", 1, 6);
        fault("set 0 1 2;", 1, 8);
        TwinThreads x = fine("set 1 01234;set 2 56789;halt;", 3);
        due("01234", x.plainOf(2, 0, 1), 1234);
        due("56789", x.plainOf(2, 0, 2), 56789);
    }

    /** Promise 3, Terms 1: "Blanks 10, 32" (no other sign is one) */
    static void promise03_blanks() {
        for (int sign = 0; sign < 256; sign++) {
            String text = "halt" + (char) sign + ";";
            if (sign == 10 || sign == 32) {
                fine(text, 1);
            } else if (sign >= 'a' && sign <= 'z') {
                fault(text, 1, 0);
            } else {
                fault(text, 1, sign == ';' ? 5 : 4);
            }
        }
        fine("\n \nset\n0 \n 1\n;\n", 1);
    }

    /** Promise 3, Terms 1: "span: 1 .. 40 (8)" */
    static void promise03_span() {
        fine("span 1;", 1);
        fine("span 40;", 1);
        fault("span 0;", 2, 5);
        fault("span 41;", 2, 5);
        TwinThreads x = told("span 1;at a;set 0 1;jump a;");
        due("a span of 1", x.go(3) + x.count(2), 4);
        x = told("span 40;at a;set 0 1;jump a;");
        go(x, 80);
        due("STEPS by a span of 40", thread(x, 0, 1), 40);
        turns(x, 2);
        x = told("at a;set 0 1;jump a;");
        go(x, 16);
        due("STEPS by a span of 8", thread(x, 0, 1), 8);
        turns(x, 2);
    }

    /** Promise 3, Terms 1: "slack: LOW 0 .. 8" */
    static void promise03_low() {
        fine("slack 0 1;", 1);
        fine("slack 8 9;", 1);
        fault("slack 9 9;", 2, 6);
        fault("slack 9 10;", 2, 6);
        TwinThreads x = told("span 20;slack 8 9;" + times(12, "set 0 1;"));
        turns(x, 1, 1, 1, 1, 1, 1, 1, 1, 0, 1, 0);
        turns(told("slack 0 9;set 0 1;set 0 2;"), 1, 0, 1, 0, 2);
    }

    /** Promise 3, Terms 1: "HIGH 1 .. 9" */
    static void promise03_high() {
        fine("slack 0 1;", 1);
        fine("slack 0 9;", 1);
        fault("slack 0 10;", 2, 8);
        fault("slack 0 0;", 2, 8);
        fault("slack 8 10;", 2, 8);
        TwinThreads x = told("span 20;slack 0 9;" + times(12, "set 0 1;"));
        flip(x, 5, 0, 5);
        go(x, 8);
        due("AHEAD below HIGH", why(x, 0), 0);
        go(x, 1);
        due("AHEAD as HIGH", why(x, 0), 3);
        x = told("slack 0 1;" + times(12, "set 0 1;"));
        flip(x, 5, 0, 5);
        go(x, 1);
        due("AHEAD as a HIGH of 1", why(x, 0), 3);
    }

    /** Promise 3, Terms 1: "HIGH 1 .. 9, above LOW" */
    static void promise03_highAboveLow() {
        for (int low = 0; low <= 8; low++) {
            for (int high = 0; high <= 9; high++) {
                if (high > low) {
                    fine("slack " + low + " " + high + ";", 1);
                } else {
                    fault("slack " + low + " " + high + ";", 2, 8);
                }
            }
        }
    }

    /** Promise 3, Terms 1: "(1, 4)" */
    static void promise03_slackUntold() {
        TwinThreads x = told(times(8, "set 0 1;"));
        turns(x, 1, 0, 1);
        flip(x, 5, 0, 5);
        go(x, 2);
        due("AHEAD below 4", why(x, 0), 0);
        go(x, 1);
        due("AHEAD 4", why(x, 0), 3);
    }

    /** Promise 3, Terms 1: "queues: how many LOADS, BRANCHES, HELD may be 1 .. 8" */
    static void promise03_queues() {
        for (int k = 0; k < 3; k++) {
            int place = 7 + 2 * k;
            String[] n = {"1", "1", "1"};
            n[k] = "8";
            fine("queues " + String.join(" ", n) + ";", 1);
            n[k] = "0";
            fault("queues " + String.join(" ", n) + ";", 2, place);
            n[k] = "9";
            fault("queues " + String.join(" ", n) + ";", 2, place);
        }
    }

    private static String ofQueue(int sort, int n) {
        StringBuilder text = new StringBuilder();
        for (int k = 0; k < n; k++) {
            String name = "" + (char) ('a' + k);
            text.append(sort == 0 ? "load 7 6 1;" : sort == 1 ? "zero 6 " + name + ";at " + name + ";" : "out 6;");
        }
        return text.toString();
    }

    private static void fills(String head, int sort, int due) {
        TwinThreads x = told("span 40;slack 8 9;" + head + ofQueue(sort, 9) + "halt;");
        // The TRAILER is kept from taking any out.
        flip(x, 5, 0, 5);
        for (int k = 0; k < due; k++) {
            due("why the LEADER MAY not with " + k + " in " + sort, why(x, 0), 0);
            go(x, 1);
        }
        due("so many are in " + sort, x.count(7 + sort), due);
        due("why the LEADER MAY not", why(x, 0), 4);
    }

    /** Promise 3, Terms 1: "how many LOADS, BRANCHES, HELD may be" (in this order, each by its own) */
    static void promise03_queuesFill() {
        int[][] sizes = {{1, 2, 3}, {8, 7, 6}, {2, 8, 1}, {3, 1, 8}};
        for (int[] s : sizes) {
            for (int sort = 0; sort < 3; sort++) {
                fills("queues " + s[0] + " " + s[1] + " " + s[2] + ";", sort, s[sort]);
            }
        }
    }

    /** Promise 3, Terms 1: "(4 each)" */
    static void promise03_queuesUntold() {
        for (int sort = 0; sort < 3; sort++) {
            fills("", sort, 4);
        }
    }

    /** Promise 3, Terms 1: "tries: 1 .. 9 (3)" */
    static void promise03_tries() {
        fine("tries 1;", 1);
        fine("tries 9;", 1);
        fault("tries 0;", 2, 6);
        fault("tries 10;", 2, 6);
        String[] heads = {"tries 1;", "tries 9;", ""};
        int[] alarms = {1, 9, 3};
        for (int k = 0; k < 3; k++) {
            TwinThreads x = told(heads[k] + "out 0;halt;");
            stick(x, 0, 0, 0, true);
            x.go(300);
            due("ALARMS by " + heads[k], x.count(3), alarms[k]);
            due("DOWN by " + heads[k], x.count(13), 1);
        }
    }

    /** Promise 3, Terms 1: "seed: 0 .. 99999 (0)" */
    static void promise03_seed() {
        fine("seed 0;", 1);
        fine("seed 99999;", 1);
        fault("seed 100000;", 2, 5);
        String body = "set 0 1;at a;load 1 0 2;out 1;zero 1 a;";
        for (int seed : new int[] {0, 1, 99999}) {
            TwinThreads x = told("seed " + seed + ";" + body);
            for (int what = 0; what < 3; what++) {
                due("chance(-1, 5, " + what + ")", x.chance(-1, 5, what), x.chance(seed, 5, what));
            }
        }
        TwinThreads x = told(body);
        due("untold", x.chance(-1, 5, 2), x.chance(0, 5, 2));
    }

    /** Promise 3, Terms 1: "data: of an address 0 .. 31 the word 0 .. 99999 (0)" */
    static void promise03_data() {
        fine("data 0 0;", 1);
        fine("data 31 99999;", 1);
        fault("data 32 0;", 2, 5);
        fault("data 0 100000;", 2, 7);
        TwinThreads x = told("data 0 7;data 31 99999;data 5 0;");
        due("memory(0)", x.memory(0), 7);
        due("memory(31)", x.memory(31), 99999);
        due("memory(5)", x.memory(5), 0);
        due("memory(1), untold", x.memory(1), 0);
        due("plainOf(0, 2, 31)", x.plainOf(0, 2, 31), 99999);
    }

    /** Promise 3, Terms 1: "at: W is where the next INSTRUCTION is" (of two, of what stands between) */
    static void promise03_at() {
        TwinThreads x = told("jump b;at a;span 3;at b;data 0 1;set 0 7;halt;");
        due("named(a)", x.named(Check.letters("a")), 1);
        due("named(b)", x.named(Check.letters("b")), 1);
        due("it goes there", x.plainOf(999, 0, 0), 7);
    }

    /** Promise 3, Terms 1: "INSTRUCTIONS (set and all behind it), at most 40" */
    static void promise03_atMost40() {
        TwinThreads x = fine(times(40, "halt;"), 40);
        due("count(0)", x.count(0), 40);
        x = fine("data 0 1;span 5;" + times(40, "halt;") + "at a;tries 2;", 44);
        due("count(0)", x.count(0), 40);
        due("the 40th is done", told(times(39, "set 0 1;") + "set 1 7;").plainOf(999, 0, 1), 7);
        for (int k = 7; k < LANGUAGE.length; k++) {
            fault(times(40, "halt;") + LANGUAGE[k] + " ", 2, 200);
        }
    }

    /** Promise 3, Terms 1: "numbered from 0 on as they come" */
    static void promise03_numberedFrom0() {
        TwinThreads x = told("at a;halt;at b;halt;span 1;at c;halt;");
        due("the first", x.named(Check.letters("a")), 0);
        due("the second", x.named(Check.letters("b")), 1);
        due("the third", x.named(Check.letters("c")), 2);
    }

    /** Each number of an INSTRUCTION: the greatest is fine, one more is FAULT 2 at it, nothing else can stand there. */
    private static void numbers(String word, String behind, int... greatest) {
        for (int k = 0; k < greatest.length; k++) {
            StringBuilder text = new StringBuilder(word);
            int place = 0;
            for (int j = 0; j < greatest.length; j++) {
                if (j == k) {
                    place = text.length() + 1;
                }
                text.append(j == k ? " #" : " 0");
            }
            text.append(behind).append(";at w;");
            String s = text.toString();
            fine(s.replace("#", "0"), 2);
            fine(s.replace("#", "" + greatest[k]), 2);
            fault(s.replace("#", "" + (greatest[k] + 1)), 2, place);
            fault(s.replace("#", "w"), 1, place);
            fault(s.replace("#", ";"), 1, place);
            fault(s.replace("#", "halt"), 1, place);
        }
        String all = word + times(greatest.length, " 0");
        if (behind.isEmpty()) {
            fault(all + " 0;", 1, all.length() + 1);
            fault(all + " w;", 1, all.length() + 1);
        } else {
            fault(all + ";", 1, all.length());
            fault(all + " 0;", 1, all.length() + 1);
            fault(all + " w 0;", 1, all.length() + 3);
            fault(all + " w w;", 1, all.length() + 3);
        }
    }

    /** Promise 3, Terms 1: "of set a REGISTER, 0 .. 99999" */
    static void promise03_ofSet() {
        numbers("set", "", 7, 99999);
        due("set 7 99999", told("set 7 99999;").plainOf(1, 0, 7), 99999);
    }

    /** Promise 3, Terms 1: "of add, sub, mul, xor three REGISTERS" */
    static void promise03_ofThreeRegisters() {
        for (String word : new String[] {"add", "sub", "mul", "xor"}) {
            numbers(word, "", 7, 7, 7);
        }
        TwinThreads x = told("set 6 12;set 7 10;add 0 6 7;sub 1 6 7;mul 2 6 7;xor 3 6 7;add 7 7 7;");
        int[] due = {22, 2, 120, 6, 0, 0, 12, 20};
        for (int k = 0; k < 8; k++) {
            due("register " + k, x.plainOf(99, 0, k), due[k]);
        }
    }

    /** Promise 3, Terms 1: "of load, store two REGISTERS, 0 .. 31" */
    static void promise03_ofLoadStore() {
        numbers("load", "", 7, 7, 31);
        numbers("store", "", 7, 7, 31);
        TwinThreads x = told("data 31 5;load 7 6 31;store 7 6 30;");
        due("load 7 6 31", x.plainOf(99, 0, 7), 5);
        due("store 7 6 30", x.plainOf(99, 2, 30), 5);
    }

    /** Promise 3, Terms 1: "of out a REGISTER" */
    static void promise03_ofOut() {
        numbers("out", "", 7);
        due("out 7", told("set 7 5;out 7;").plainOf(99, 3, 0), 5);
    }

    /** Promise 3, Terms 1: "of real a FLOAT, a REGISTER" */
    static void promise03_ofReal() {
        numbers("real", "", 3, 7);
        due("real 3 7", told("set 7 5;real 3 7;").plainOf(99, 1, 3), Float.floatToIntBits(5));
    }

    /** Promise 3, Terms 1: "of whole, bits a REGISTER, a FLOAT" */
    static void promise03_ofWholeBits() {
        numbers("whole", "", 7, 3);
        numbers("bits", "", 7, 3);
        TwinThreads x = told("set 0 5;real 3 0;whole 7 3;bits 6 3;");
        due("whole 7 3", x.plainOf(99, 0, 7), 5);
        due("bits 6 3", x.plainOf(99, 0, 6), Float.floatToIntBits(5));
    }

    /** Promise 3, Terms 1: "of plus, times three FLOATS" */
    static void promise03_ofThreeFloats() {
        numbers("plus", "", 3, 3, 3);
        numbers("times", "", 3, 3, 3);
        TwinThreads x = told("set 0 5;set 1 7;real 2 0;real 3 1;plus 0 2 3;times 1 2 3;times 3 3 3;");
        float[] due = {12, 35, 5, 49};
        for (int k = 0; k < 4; k++) {
            due("float " + k, x.plainOf(99, 1, k), Float.floatToIntBits(due[k]));
        }
    }

    /** Promise 3, Terms 1: "of zero a REGISTER, of less two, of under two FLOATS" (and W; of jump W, of halt nothing) */
    static void promise03_ofThoseThatGo() {
        numbers("jump", " w");
        numbers("zero", " w", 7);
        numbers("less", " w", 7, 7);
        numbers("under", " w", 3, 3);
        numbers("halt", "");
    }

    /** Promise 3, Terms 1: "REGISTERS 0 .. 7, FLOATS 0 .. 3" (each is another one) */
    static void promise03_eachItsOwn() {
        StringBuilder text = new StringBuilder();
        for (int k = 0; k < 8; k++) {
            text.append("set ").append(k).append(' ').append(k + 10).append(';');
        }
        for (int k = 0; k < 4; k++) {
            text.append("real ").append(k).append(' ').append(k).append(';');
        }
        TwinThreads x = told(text.toString());
        for (int k = 0; k < 8; k++) {
            due("register " + k, x.plainOf(12, 0, k), k + 10);
            due("float " + k, x.plainOf(12, 1, k), k < 4 ? Float.floatToIntBits(k + 10) : 0);
        }
    }

    /** Promise 4, Terms 1: "FAULTS, the first along the text" */
    static void promise04_firstAlongTheText() {
        fault("span 41;foo;", 2, 5);
        fault("foo;span 41;", 1, 0);
        fault("span 1;span 41;", 3, 7);
        fault("span 1;halt 1;span 1;", 1, 12);
        fault("set 8 x;", 2, 4);
        fault("set x 100000;", 1, 4);
        fault("at a;at a 1;", 3, 8);
        fault("data 1 1;data 1 100000;", 3, 14);
        fault("data 1 100000;data 1 1;", 2, 7);
        fault("span 99 99", 2, 5);
        fault("slack 9 9;", 2, 6);
        fault("jump nowhe;set 8 1;", 2, 15);
        fault("jump nowhe;at a;at a;", 3, 19);
        fault("jump nowhe", 1, 10);
    }

    /** Promise 4, Terms 1: "(of one place the least)" */
    static void promise04_ofOnePlaceTheLeast() {
        fault("span 1 span 1;", 1, 7);
        fault("tries 1;halt tries 1;", 1, 13);
        fault("halt 100000;", 1, 5);
        fault("at 100000;", 1, 3);
        fault("jump 100000;", 1, 5);
        fault("set 0 1 100000;", 1, 8);
        fault("at a at a;", 1, 5);
        fault("100000;", 1, 0);
        fault(times(39, "halt;") + "halt halt;", 1, 200);
        fault(times(40, "halt;") + "hal;", 1, 200);
        fault("data 1 1;halt data 1 1;", 1, 14);
        fault("jump halt;", 1, 5);
    }

    /** Promise 4, Terms 1: "a TOKEN that is none" */
    static void promise04_noToken() {
        fault("?", 1, 0);
        fault("halt;  #", 1, 7);
        fault("set ! 1;", 1, 4);
        fault("set 0 .;", 1, 6);
        fault("at -;", 1, 3);
        fault("halt\"", 1, 4);
        fault("halt;\u00ff", 1, 5);
        fault("halt;\0", 1, 5);
    }

    /** Promise 4, Terms 1: "(a word of more than 6 letters that isn't of the language, too)" */
    static void promise04_longWord() {
        fault("longest;", 1, 0);
        fault("queuess 1 1 1;", 1, 0);
        fault("at longest;", 1, 3);
        fault("jump longest;at longes;", 1, 5);
        fault("set longest 1;", 1, 4);
        fault("halt longest", 1, 5);
        fault("haltttttt;", 1, 0);
        fault(times(700, "a"), 1, 0);
        fine("queues 1 1 1;", 1);
    }

    /** Promise 4, Terms 1: "or can't stand there" */
    static void promise04_cantStandThere() {
        fault("hal;", 1, 0);
        fault("a;", 1, 0);
        fault("7;", 1, 0);
        fault("span ;", 1, 5);
        fault("span span;", 1, 5);
        fault("span 1 1;", 1, 7);
        fault("slack 1;", 1, 7);
        fault("slack 1 2 3;", 1, 10);
        fault("queues 1 1;", 1, 10);
        fault("queues 1 1 1 1;", 1, 13);
        fault("tries;", 1, 5);
        fault("tries 1 1;", 1, 8);
        fault("seed x;", 1, 5);
        fault("seed 1 1;", 1, 7);
        fault("data 1;", 1, 6);
        fault("data 1 1 1;", 1, 9);
        fault("at;", 1, 2);
        fault("at 7;", 1, 3);
        fault("at a a;", 1, 5);
        fault("halt halt", 1, 5);
    }

    /** Promise 4, Terms 1: "(the length, if more must come)" */
    static void promise04_theLength() {
        String[] cut = {"halt", "set", "set 0", "set 0 1", "set 0 1 ", "set 0 1\n\n", "span", "slack", "slack 1", "slack 1 2",
            "queues 1 1", "tries", "seed", "data", "data 1", "at", "at a", "jump", "jump a", "zero", "zero 0", "under 0 1 w",
            "halt;load 0 1", "halt; halt  "};
        for (String text : cut) {
            fault(text, 1, text.length());
        }
        TwinThreads x = new TwinThreads();
        x.feed(HALT, 0x3B68616C, 0x743B6861, 0x6C743B68, 0x616C743B);
        due("text(14)", x.text(14), -1);
        due("the length n, not that of the TAPE", x.fault(1), 14);
        x.feed(HALT, BLANKS, BLANKS, BLANKS, BLANKS);
        due("text(20)", x.text(20), -1);
        due("behind blanks", x.fault(1), 20);
    }

    /** Promise 4, Terms 1: "2 too much (at it): a number beyond what is said" (of any length) */
    static void promise04_tooMuch() {
        String[] numbers = {"100000", "99999999", "2147483647", "2147483648", "4294967295", "4294967296", "4294967297",
            "42949672960", "18446744073709551615", "18446744073709551616", "18446744073709551617", "1" + times(64, "0")};
        for (String n : numbers) {
            fault("set 0 " + n + ";", 2, 6);
            fault("set " + n + " 0;", 2, 4);
            fault("span " + n + ";", 2, 5);
            fault("seed " + n + ";", 2, 5);
            fault("data " + n + " 0;", 2, 5);
            fault("slack 1 " + n + ";", 2, 8);
        }
    }

    /** Promise 4, Terms 1: "(a HIGH that isn't above LOW)" */
    static void promise04_highNotAboveLow() {
        fault("slack 0 0;", 2, 8);
        fault("slack 1 1;", 2, 8);
        fault("slack 8 8;", 2, 8);
        fault("slack 8 1;", 2, 8);
        fault("slack  5   4;", 2, 11);
    }

    /** Promise 4, Terms 1: "a 41st INSTRUCTION (at the word)" */
    static void promise04_the41st() {
        String forty = times(40, "halt;");
        fault(forty + "halt;", 2, 200);
        fault(forty + "  set 9 x", 2, 202);
        fault(forty + "at a;jump a;", 2, 205);
        fault(forty + "seed 1;seed 1;halt;", 3, 207);
        fault(forty + "set", 2, 200);
    }

    /** Promise 4, Terms 1: "3 told already: W of at (at it)" */
    static void promise04_nameToldAlready() {
        fault("at a;at a;", 3, 8);
        fault("at abcdef;halt;at  abcdef;", 3, 19);
        fault("at a;halt;at b;at a;", 3, 18);
        fine("at a;at aa;at b;at ab;at ba;", 5);
    }

    /** Promise 4, Terms 1: "told already: [...] span" (at the word) */
    static void promise04_spanToldAlready() {
        fault("span 1;span 1;", 3, 7);
        fault("span 8; halt; span 9", 3, 14);
    }

    /** Promise 4, Terms 1: "told already: [...] slack" (at the word) */
    static void promise04_slackToldAlready() {
        fault("slack 1 2;slack 1 2;", 3, 10);
        fault("slack 1 2;span 1;slack x", 3, 17);
    }

    /** Promise 4, Terms 1: "told already: [...] queues" (at the word) */
    static void promise04_queuesToldAlready() {
        fault("queues 4 4 4;queues 4 4 4;", 3, 13);
        fault("queues 4 4 4;halt;queues", 3, 18);
    }

    /** Promise 4, Terms 1: "told already: [...] tries" (at the word) */
    static void promise04_triesToldAlready() {
        fault("tries 3;tries 3;", 3, 8);
        fault("tries 3;halt;tries 99;", 3, 13);
    }

    /** Promise 4, Terms 1: "told already: [...] seed (at the word)" */
    static void promise04_seedToldAlready() {
        fault("seed 0;seed 0;", 3, 7);
        fault("seed 0;at a;seed ;", 3, 12);
        fine("seed 1;tries 1;queues 1 1 1;slack 1 2;span 1;", 5);
    }

    /** Promise 4, Terms 1: "the address of data (at it)" */
    static void promise04_addressToldAlready() {
        fault("data 0 1;data 0 1;", 3, 14);
        fault("data 31 1;data 31 2;", 3, 15);
        fault("data 7 1;halt;data  007 x", 3, 20);
        StringBuilder all = new StringBuilder();
        for (int k = 0; k < 32; k++) {
            all.append("data ").append(k).append(" 1;");
        }
        fine(all.toString(), 32);
        fault(all + "data 31 1;", 3, all.length() + 5);
        fault(all + "data 0 1;", 3, all.length() + 5);
    }

    /** Promise 4, Terms 1: "4 a W that no at tells, the first one (at it)" */
    static void promise04_nowhere() {
        fault("jump a;", 4, 5);
        fault("zero 0 a;", 4, 7);
        fault("less 0 0 a;", 4, 9);
        fault("under 0 0 a;", 4, 10);
        fault("at a;jump a;jump  b;jump c;", 4, 18);
        fault("jump b;jump c;at c;", 4, 5);
        fault("jump c;jump b;at c;", 4, 12);
        fault("at ab;jump a;", 4, 11);
        fault("at a;jump aa;", 4, 10);
        fine("jump a;at a;", 2);
        fine("at a;jump a;", 2);
    }

    /** Promise 4, Terms 1: "Without any of these" (1 to 3 go ahead of 4, wherever they are) */
    static void promise04_withoutAnyOfThese() {
        fault("jump a;foo;", 1, 7);
        fault("jump a;span 0;", 2, 12);
        fault("jump a;span 1;span 1;", 3, 14);
        fault("jump a;halt", 1, 11);
        fault("jump a;" + times(39, "halt;") + "halt;", 2, 202);
    }

    /** Promise 4: "Of the latest text() that was not -2" */
    static void promise04_latestThatWasNotMinus2() {
        TwinThreads x = new TwinThreads();
        Check.tell(x, "span 99;");
        due("text(1)", x.text(1), -2);
        due("text(-1)", x.text(-1), -2);
        due("fault(0)", x.fault(0), 2);
        due("fault(1)", x.fault(1), 5);
        Check.tell(x, "halt");
        due("fault(0) of a later one", x.fault(0), 1);
        due("fault(1) of a later one", x.fault(1), 4);
        Check.tell(x, "halt;");
        due("text(MAX)", x.text(MAX), -2);
        due("fault(0) of a later one without", x.fault(0), 0);
        due("fault(1) of a later one without", x.fault(1), -1);
    }

    /** Promise 4: "1: its place (NONE without)" (0 is a place) */
    static void promise04_noneWithout() {
        TwinThreads x = told("halt;");
        due("fault(0)", x.fault(0), 0);
        due("fault(1)", x.fault(1), -1);
        Check.tell(x, ";");
        due("fault(1)", x.fault(1), 0);
        x.text(0);
        due("fault(1)", x.fault(1), -1);
    }

    /** Promise 4: "NONE for another what" */
    static void promise04_anotherWhat() {
        TwinThreads x = told("halt;");
        for (int round = 0; round < 2; round++) {
            for (int what : new int[] {-1, 2, 3, MIN, MAX}) {
                due("fault(" + what + ")", x.fault(what), -1);
            }
            Check.tell(x, "halt");
        }
    }

    /** Promise 5: "by its letters, 5 bits each (a is 1; the first one highest of six, 0 behind the last one)" */
    static void promise05_letters() {
        TwinThreads x = told("at a;set 0 0;at z;set 0 0;at az;set 0 0;at zzzzzz;set 0 0;at aaaaaa;set 0 0;at abcdef;set 0 0;at b;");
        due("a", x.named(1 << 25), 0);
        due("z", x.named(26 << 25), 1);
        due("az", x.named(1 << 25 | 26 << 20), 2);
        due("zzzzzz", x.named(26 << 25 | 26 << 20 | 26 << 15 | 26 << 10 | 26 << 5 | 26), 3);
        due("aaaaaa", x.named(1 << 25 | 1 << 20 | 1 << 15 | 1 << 10 | 1 << 5 | 1), 4);
        due("abcdef", x.named(1 << 25 | 2 << 20 | 3 << 15 | 4 << 10 | 5 << 5 | 6), 5);
        due("a as the last of six", x.named(1), -1);
        due("za", x.named(26 << 25 | 1 << 20), -1);
        due("a blank, then a", x.named(1 << 20), -1);
        due("a and a sign 27", x.named(1 << 25 | 27 << 20), -1);
    }

    /** Promise 5: "(how many there are, if none is behind it)" */
    static void promise05_noneBehind() {
        due("of none", told("at a;").named(1 << 25), 0);
        due("of one", told("halt;at a;").named(1 << 25), 1);
        due("of one ahead", told("at a;halt;").named(1 << 25), 0);
        due("of 40", told(times(40, "halt;") + "at a;").named(1 << 25), 40);
        due("the 40th", told(times(39, "halt;") + "at a;halt;").named(1 << 25), 39);
    }

    /** Promise 5: "NONE: there is none such" */
    static void promise05_noneSuch() {
        TwinThreads x = told("at ab;set 0 1;jump ab;at abcdef;");
        int[] none = {0, 1, -1, MIN, MAX, 1 << 25, 2 << 25, 1 << 25 | 2 << 20 | 3 << 15, 1 << 25 | 2 << 20 | 1 << 30,
            1 << 25 | 2 << 20 | MIN, Check.letters("abcde"), Check.letters("abcdeg"), Check.letters("jump")};
        for (int letters : none) {
            due("named(" + letters + ")", x.named(letters), -1);
        }
        due("named(ab)", x.named(Check.letters("ab")), 0);
        due("of a new object", new TwinThreads().named(0), -1);
    }

    /** Promise 5: "NONE: there is none such" (all names that 700 bytes can tell are kept) */
    static void promise05_manyNames() {
        StringBuilder text = new StringBuilder();
        for (char c = 'a'; c <= 'z'; c++) {
            text.append("at ").append(c).append(';');
        }
        int twos = 0;
        for (int k = 0; text.length() <= 694; k++) {
            if (k != 19) {
                text.append("at ").append((char) ('a' + k / 26)).append((char) ('a' + k % 26)).append(';');
                twos++;
            }
        }
        TwinThreads x = fine(text.toString(), 26 + twos);
        for (int k = 0; k < 26; k++) {
            due("named(one letter)", x.named(k + 1 << 25), 0);
        }
        for (int k = 0; k <= twos; k++) {
            due("named(two letters)", x.named(k / 26 + 1 << 25 | k % 26 + 1 << 20), k == 19 ? -1 : 0);
        }
    }
}
