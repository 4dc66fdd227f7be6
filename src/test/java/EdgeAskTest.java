import java.util.List;

/** Promises 16 to 34 with parts 2 to 4 of the Terms: a test for each sentence that names a boundary. */
final class EdgeAskTest extends Edge {
    private static final int[] NO_THREADS = {-1, 2, 3, MIN, MAX};
    private static final String MIXED = "data 2 9;set 0 3;set 1 1;at a;load 2 0 0;mul 3 2 0;store 3 0 1;out 3;sub 0 0 1;"
        + "zero 0 b;jump a;at b;real 0 3;plus 1 0 0;bits 4 1;out 4;halt;";
    private static final String NEVER_DONE = "at a;set 0 1;jump a;";

    public static void main(String[] args) {
        runAll(EdgeAskTest.class, args);
    }

    /** Promise 16: "behind n STEPS 0 .. 999" */
    static void promise16_upTo999() {
        TwinThreads x = told("at a;set 0 1;out 0;jump a;");
        int[] due0 = {0, 0, 0, 0};
        int[] due1 = {1, 0, 1, 0};
        int[] due998 = {2, 0, 998, 333};
        int[] due999 = {0, 0, 999, 333};
        for (int what = 0; what < 4; what++) {
            due("plain(0, " + what + ")", x.plain(0, what), due0[what]);
            due("plain(1, " + what + ")", x.plain(1, what), due1[what]);
            due("plain(998, " + what + ")", x.plain(998, what), due998[what]);
            due("plain(999, " + what + ")", x.plain(999, what), due999[what]);
        }
    }

    /** Promise 16: "(as far as they come)" */
    static void promise16_asFarAsTheyCome() {
        TwinThreads x = told("set 0 1;out 0;halt;set 0 2;");
        int[][] due = {{1, 0, 1, 0}, {2, 1, 2, 1}, {2, 1, 2, 1}, {2, 1, 2, 1}};
        int[] steps = {1, 2, 3, 999};
        for (int k = 0; k < 4; k++) {
            for (int what = 0; what < 4; what++) {
                due("plain(" + steps[k] + ", " + what + ")", x.plain(steps[k], what), due[k][what]);
            }
        }
        TwinThreads none = new TwinThreads();
        due("of no INSTRUCTION", none.plain(999, 0) + none.plain(999, 2) + none.plain(999, 3), 0);
        due("HALTED without INSTRUCTIONS", none.plain(0, 1), 1);
    }

    /** Promise 16: "NONE: no such ones" (n) */
    static void promise16_noSuchN() {
        TwinThreads x = told("set 0 1;halt;");
        for (int n : new int[] {-1, 1000, 1001, MIN, MAX}) {
            for (int what = 0; what < 4; what++) {
                due("plain(" + n + ", " + what + ")", x.plain(n, what), -1);
            }
        }
    }

    /** Promise 16: "NONE: no such ones" (what) */
    static void promise16_noSuchWhat() {
        TwinThreads x = told("set 0 1;halt;");
        for (int what : new int[] {-1, 4, 5, MIN, MAX}) {
            due("plain(0, " + what + ")", x.plain(0, what), -1);
            due("plain(999, " + what + ")", x.plain(999, what), -1);
            due("plain(1000, " + what + ")", x.plain(1000, what), -1);
        }
    }

    private static TwinThreads ofAll() {
        return told("data 0 5;data 31 6;set 0 7;set 7 8;real 0 0;real 3 7;out 0;out 7;halt;");
    }

    /** Promise 17: "behind n STEPS 0 .. 999" (0 for no such n) */
    static void promise17_stepsUpTo999() {
        TwinThreads x = ofAll();
        due("plainOf(0, 2, 0)", x.plainOf(0, 2, 0), 5);
        due("plainOf(0, 0, 0)", x.plainOf(0, 0, 0), 0);
        due("plainOf(1, 0, 0)", x.plainOf(1, 0, 0), 7);
        due("plainOf(999, 0, 0)", x.plainOf(999, 0, 0), 7);
        for (int n : new int[] {-1, 1000, 1001, MIN, MAX}) {
            due("plainOf(" + n + ", 0, 0)", x.plainOf(n, 0, 0), 0);
            due("plainOf(" + n + ", 1, 0)", x.plainOf(n, 1, 0), 0);
            due("plainOf(" + n + ", 2, 0)", x.plainOf(n, 2, 0), 0);
            due("plainOf(" + n + ", 3, 0)", x.plainOf(n, 3, 0), 0);
        }
        TwinThreads loop = told("set 1 1;at a;add 0 0 1;jump a;");
        due("plainOf(998, 0, 0)", loop.plainOf(998, 0, 0), 499);
        due("plainOf(999, 0, 0)", loop.plainOf(999, 0, 0), 499);
        due("plainOf(997, 0, 0)", loop.plainOf(997, 0, 0), 498);
    }

    /** Promise 17: "a REGISTER (sort 0)"; "0 for no such ones" */
    static void promise17_register() {
        TwinThreads x = ofAll();
        due("plainOf(9, 0, 7)", x.plainOf(9, 0, 7), 8);
        for (int number : new int[] {-1, 8, 9, MIN, MAX}) {
            due("plainOf(9, 0, " + number + ")", x.plainOf(9, 0, number), 0);
        }
    }

    /** Promise 17: "a FLOAT's bits (1)"; "0 for no such ones" */
    static void promise17_float() {
        TwinThreads x = ofAll();
        due("plainOf(9, 1, 0)", x.plainOf(9, 1, 0), Float.floatToIntBits(7));
        due("plainOf(9, 1, 3)", x.plainOf(9, 1, 3), Float.floatToIntBits(8));
        for (int number : new int[] {-1, 4, 5, 7, MIN, MAX}) {
            due("plainOf(9, 1, " + number + ")", x.plainOf(9, 1, number), 0);
        }
    }

    /** Promise 17: "a word of its memory (2)"; "0 for no such ones" */
    static void promise17_word() {
        TwinThreads x = ofAll();
        due("plainOf(9, 2, 0)", x.plainOf(9, 2, 0), 5);
        due("plainOf(9, 2, 31)", x.plainOf(9, 2, 31), 6);
        for (int number : new int[] {-1, 32, 33, 63, 64, MIN, MAX}) {
            due("plainOf(9, 2, " + number + ")", x.plainOf(9, 2, number), 0);
        }
    }

    /** Promise 17: "the k-th of its OUTPUT, all of it (3; 0: not so many)" */
    static void promise17_allOfItsOutput() {
        TwinThreads x = ofAll();
        due("plainOf(9, 3, 0)", x.plainOf(9, 3, 0), 7);
        due("plainOf(9, 3, 1)", x.plainOf(9, 3, 1), 8);
        due("plainOf(5, 3, 1), not yet", x.plainOf(5, 3, 1), 0);
        for (int k : new int[] {2, 3, 39, 40, 998, 999, 1000, MAX, -1, MIN}) {
            due("plainOf(9, 3, " + k + ")", x.plainOf(9, 3, k), 0);
        }
        TwinThreads many = told("set 7 1;at a;add 0 0 7;" + times(37, "out 0;") + "jump a;");
        int came = many.plain(999, 3);
        due("more than 40 came", came, 947);
        for (int k : new int[] {0, 36, 37, 40, 41, 500, 946}) {
            due("plainOf(999, 3, " + k + ")", many.plainOf(999, 3, k), k / 37 + 1);
        }
        due("behind the last", many.plainOf(999, 3, 947), 0);
    }

    /** Promise 17: "0 for no such ones" (sort) */
    static void promise17_noSuchSort() {
        TwinThreads x = ofAll();
        for (int sort : new int[] {-1, 4, 5, MIN, MAX}) {
            due("plainOf(9, " + sort + ", 0)", x.plainOf(9, sort, 0), 0);
        }
    }

    /** Promise 18: "(up to the last POINT, from the beginning on)" */
    static void promise18_upToTheLastPoint() {
        TwinThreads x = told("span 3;set 0 1;set 0 2;set 0 3;set 0 4;halt;");
        due("at the beginning", x.compared(), 0);
        go(x, 6);
        due("ahead of a POINT", x.compared(), 0);
        go(x, 1);
        due("behind it", x.compared(), 3);
        go(x, 2);
        due("not those since", x.compared(), 3);
        flip(x, 0, 7, 0);
        turns(x, 14);
        due("none by an ALARM", x.compared(), 3);
        finish(x);
        due("all", x.compared(), 4);
        due("as many as PLAIN does", x.plain(999, 2), 4);
    }

    /** Promise 19: "SHOT, what 0 how many TURNS, 1 which ALARM" (from the next TURN on, up to that of a POINT) */
    static void promise19_howManyTurns() {
        TwinThreads x = told("set 0 1;out 1;halt;");
        due("at the POINT", x.shot(0, 7, 0, 0) * 10 + x.shot(0, 7, 0, 1), 54);
        due("at the TRAILER's out", x.shot(0, 1, 0, 0) * 10 + x.shot(0, 1, 0, 1), 43);
        go(x, 1);
        due("a TURN later", x.shot(0, 1, 0, 0), 3);
        go(x, 2);
        due("with the next TURN", x.shot(1, 1, 0, 0) * 10 + x.shot(1, 1, 0, 1), 13);
        due("at the POINT", x.shot(1, 7, 31, 0) * 10 + x.shot(1, 7, 31, 1), 24);
        due("no ALARM came", x.count(3) + x.alarm(0, 0), -1);
    }

    /** Promise 19: "-2: none ahead of a POINT" (a POINT that passes goes first) */
    static void promise19_aPointAheadOfIt() {
        TwinThreads x = told("set 0 1;set 0 2;halt;");
        due("overwritten", x.shot(0, 0, 5, 0), -2);
        due("overwritten", x.shot(1, 0, 5, 1), -2);
        due("not overwritten", x.shot(1, 1, 5, 0), 5);
        TwinThreads late = told("span 1;set 0 1;set 0 0;halt;");
        stick(late, 0, 0, 0, true);
        due("an ALARM comes behind the POINT", late.shot(0, 0, 5, 0), -2);
        go(late, 3);
        due("a POINT passed", late.count(2), 1);
        due("it comes now", late.shot(0, 0, 5, 0), 3);
    }

    /** Promise 19: "(or no TURNS come)" (-2) */
    static void promise19_noTurnsCome() {
        TwinThreads x = told("set 0 1;halt;");
        finish(x);
        due("DONE", x.shot(0, 7, 3, 0), -2);
        due("DONE", x.shot(5, 0, 0, 1), -2);
        TwinThreads y = told("tries 1;halt;");
        flip(y, 0, 0, 0);
        go(y, 1);
        due("DOWN", y.shot(0, 0, 0, 0), -2);
        TwinThreads last = told("tries 1;halt;");
        due("an ALARM that makes it DOWN is one", last.shot(0, 0, 0, 0), 1);
    }

    /** Promise 19: "NONE: no such ones (as flip())" (each that flip() answers false for) */
    static void promise19_asFlip() {
        String text = "slack 8 9;queues 8 8 8;load 1 0 1;zero 0 a;at a;store 0 0 3;out 0;halt;";
        for (int turns : new int[] {0, 4, 7}) {
            for (int sort = -1; sort < 14; sort++) {
                TwinThreads x = told(text);
                go(x, turns);
                for (int number : new int[] {-1, 0, 1, 3, 4, 7, 8, MAX}) {
                    for (int bit : new int[] {-1, 0, 1, 4, 5, 6, 31, 32, MIN}) {
                        boolean isNone = x.shot(sort, number, bit, 0) == -1;
                        due("shot(" + sort + ", " + number + ", " + bit + ", 0) behind " + turns, isNone,
                            !x.flip(sort, number, bit));
                        x.flip(sort, number, bit);
                    }
                }
            }
        }
    }

    /** Promise 19: "NONE: no such ones" (what) */
    static void promise19_noSuchWhat() {
        TwinThreads x = told("set 0 1;halt;");
        for (int what : new int[] {-1, 2, 3, MIN, MAX}) {
            due("shot(0, 7, 0, " + what + ")", x.shot(0, 7, 0, what), -1);
        }
    }

    /** Promise 19, Terms 4: "Of several answers that hold NONE goes first, then -2" */
    static void promise19_noneGoesFirst() {
        TwinThreads x = told("set 0 1;set 0 2;halt;");
        due("no such bit", x.shot(0, 0, 32, 0), -1);
        due("no such what, none ahead of a POINT", x.shot(0, 0, 0, 2), -1);
        finish(x);
        due("no such bit, DONE", x.shot(0, 0, 32, 0), -1);
        due("no such sort, DONE", x.shot(13, 0, 0, 1), -1);
        due("no such number, DONE", x.shot(2, 4, 0, 1), -1);
        due("no such what, DONE", x.shot(0, 0, 0, -1), -1);
    }

    /** Promise 20: "Of how many of the 256 bits" (from none to all) */
    static void promise20_noneToAll() {
        TwinThreads x = told("halt;");
        due("all of the LEADER", x.matters(0), 256);
        due("all of the TRAILER", x.matters(1), 256);
        finish(x);
        due("none when DONE", x.matters(0) + x.matters(1), 0);
        TwinThreads one = told("set 7 1;halt;");
        due("but for one REGISTER", one.matters(0) * 1000 + one.matters(1), 224224);
        go(one, 1);
        due("behind the LEADER's STEP", one.matters(0) * 1000 + one.matters(1), 256224);
        TwinThreads down = told("tries 1;halt;");
        flip(down, 2, 3, 31);
        due("an ALARM that comes anyway", down.matters(1), 256);
        go(down, 1);
        due("none when DOWN", down.matters(0) + down.matters(1), 0);
    }

    /** Promise 20: "the 256 bits of REGISTERS of the LEADER (0), the TRAILER (1)" (the first and the last of them) */
    static void promise20_firstAndLastBit() {
        for (int free : new int[] {0, 31, 32, 224, 255}) {
            for (int which = 0; which < 2; which++) {
                TwinThreads x = told("halt;");
                for (int k = 0; k < 256; k++) {
                    if (k != free) {
                        x.stick(which, k / 32, k % 32, false);
                    }
                }
                due("bit " + free + " alone", x.matters(which), 1);
                due("it takes", x.slowest(which), 1);
                due("all of the other", x.matters(1 - which), 256);
                x.stick(which, free / 32, free % 32, false);
                due("all are STUCK", x.matters(which), 0);
                due("all are STUCK", x.slowest(which), -2);
            }
        }
    }

    /** Promise 20: "NONE: no such THREAD" */
    static void promise20_noSuchThread() {
        TwinThreads x = told("halt;");
        TwinThreads y = told("halt;");
        finish(y);
        for (int which : NO_THREADS) {
            due("matters(" + which + ")", x.matters(which), -1);
            due("matters(" + which + ") when DONE", y.matters(which), -1);
        }
    }

    /** Promise 21: "LONG by a span 1 .. 40" */
    static void promise21_spans() {
        TwinThreads x = told("span 2;" + times(40, "set 0 1;"));
        due("longBy(1)", x.longBy(1), 120);
        due("longBy(2)", x.longBy(2), 100);
        due("longBy(39)", x.longBy(39), 82);
        due("longBy(40)", x.longBy(40), 81);
    }

    /** Promise 21: "NONE: no such span" */
    static void promise21_noSuchSpan() {
        TwinThreads x = told("set 0 1;halt;");
        TwinThreads y = told(NEVER_DONE);
        for (int span : new int[] {0, -1, 41, 42, MIN, MAX}) {
            due("longBy(" + span + ")", x.longBy(span), -1);
            due("longBy(" + span + ") goes ahead of -2", y.longBy(span), -1);
        }
    }

    /** Promise 21: "-2: not in 999" (999 is in it) */
    static void promise21_notIn999() {
        due("999", told(rounds(156, 1)).longBy(8), 999);
        due("1000", told(rounds(158, 1)).longBy(10), -2);
        due("999 by 1", told(rounds(110, 2)).longBy(1), 999);
        due("1002 by 1", told(rounds(110, 3)).longBy(1), -2);
        due("never", told(NEVER_DONE).longBy(40), -2);
    }

    /** Promise 21, Terms 3: "FRESH: the PAIR as the TEXT begins it, nothing STUCK" */
    static void promise21_fromFreshOn() {
        TwinThreads x = told("tries 1;out 0;set 0 1;halt;");
        stick(x, 0, 0, 0, true);
        flip(x, 4, 0, 5);
        due("LONG", x.longBy(8), 5);
        x.go(300);
        due("DOWN", x.count(13), 1);
        due("LONG when DOWN", x.longBy(8), 5);
        due("with an ALARM", x.longWith(8, 1), -2);
        due("need", x.need(2), 1);
    }

    /** Promise 21, Terms 3: "LONG: how many TURNS from FRESH on till it is DONE" (one, if nothing is to do) */
    static void promise21_atLeastOne() {
        due("of no INSTRUCTION", new TwinThreads().longBy(1), 1);
        due("of a halt", told("halt;").longBy(40), 1);
        due("of one STEP", told("set 0 1;").longBy(1), 3);
    }

    /** Promise 22: "LONG by a span 1 .. 40, if with TURN t 1 .. 200 an ALARM came" */
    static void promise22_spansAndTurns() {
        TwinThreads x = told(times(40, "set 0 1;"));
        due("longWith(1, 1)", x.longWith(1, 1), 121);
        due("longWith(40, 1)", x.longWith(40, 1), 82);
        due("longWith(40, 81)", x.longWith(40, 81), 162);
        due("longWith(1, 200)", x.longWith(1, 200), 120);
        TwinThreads y = told(rounds(60, 0));
        due("without", y.longBy(1), 543);
        due("longWith(1, 200)", y.longWith(1, 200), 545);
        due("longWith(1, 199)", y.longWith(1, 199), 544);
        due("longWith(1, 198)", y.longWith(1, 198), 546);
    }

    /** Promise 22: "NONE: no such ones" (span, t; ahead of -2) */
    static void promise22_noSuchOnes() {
        for (String text : new String[] {"set 0 1;halt;", NEVER_DONE}) {
            TwinThreads x = told(text);
            for (int n : new int[] {0, -1, MIN, MAX}) {
                due("longWith(" + n + ", 1)", x.longWith(n, 1), -1);
                due("longWith(1, " + n + ")", x.longWith(1, n), -1);
                due("longWith(" + n + ", " + n + ")", x.longWith(n, n), -1);
            }
            due("longWith(41, 1)", x.longWith(41, 1), -1);
            due("longWith(40, 201)", x.longWith(40, 201), -1);
            due("longWith(41, 201)", x.longWith(41, 201), -1);
        }
    }

    /** Promise 22: "in place of it" (of a STEP, of a POINT; none, if it is DONE ahead of that TURN) */
    static void promise22_inPlaceOfIt() {
        TwinThreads x = told("set 0 1;set 0 2;set 0 3;halt;");
        int[] due = {8, 9, 10, 11, 12, 13, 14, 7, 7};
        for (int t = 1; t <= due.length; t++) {
            due("longWith(8, " + t + ")", x.longWith(8, t), due[t - 1]);
        }
        int[] byOne = {10, 11, 12, 10, 11, 12, 10, 11, 12, 9};
        for (int t = 1; t <= byOne.length; t++) {
            due("longWith(1, " + t + ")", x.longWith(1, t), byOne[t - 1]);
        }
        due("of no INSTRUCTION", new TwinThreads().longWith(8, 1) * 10 + new TwinThreads().longWith(8, 2), 21);
    }

    /** Promise 22: "-2: not in 999" (with the ALARM; 999 is in it) */
    static void promise22_notIn999() {
        TwinThreads x = told(rounds(156, 1));
        due("without", x.longBy(8), 999);
        due("one TURN more", x.longWith(8, 1), -2);
        TwinThreads y = told(rounds(156, 0));
        due("without", y.longBy(8), 997);
        due("999 with it", y.longWith(8, 2), 999);
        due("1000 with it", y.longWith(8, 3), -2);
    }

    /** Promise 22: "DOWN" (-2: by tries of 1, not by 2) */
    static void promise22_down() {
        TwinThreads x = told("tries 1;set 0 1;halt;");
        due("with any TURN", x.longWith(8, 1) + x.longWith(8, 3), -4);
        due("behind it", x.longWith(8, 4), 3);
        due("by tries of 2", told("tries 2;set 0 1;halt;").longWith(8, 3), 6);
    }

    /** Promise 23: "The least size 1 .. 8 of LOADS (0), BRANCHES (1), HELD (2)" (each from 1 to 8) */
    static void promise23_leastSize() {
        for (int n = 1; n <= 8; n++) {
            TwinThreads x = told("span 40;queues 1 1 1;" + times(n, "out 0;") + "halt;");
            due("need(2) of " + n, x.need(2), n);
            due("need(0), need(1) of none", x.need(0) * 10 + x.need(1), 11);
        }
        TwinThreads two = told("span 40;queues 1 1 1;" + times(9, "out 0;") + "halt;");
        due("9 by 8 are two POINTS, so are 9 by 5", two.need(2), 5);
    }

    private static int longAs(String text) {
        TwinThreads x = told(text);
        int turns = goOn(x, 999);
        return x.count(12) == 1 ? turns : -2;
    }

    /** Promise 23: "by which LONG (all else as told) is no more than by 8" (LOADS and BRANCHES, by hand) */
    static void promise23_noMoreThanBy8() {
        String[] heads = {"span 9;slack 7 8;", "span 17;slack 0 1;", "span 40;slack 8 9;", "span 5;slack 2 4;"};
        String[] queues = {"queues # 2 2;", "queues 2 # 2;", "queues 2 2 #;"};
        String body = "set 1 1;set 2 1;load 3 0 1;load 3 0 2;zero 1 a;at a;load 3 0 3;zero 1 b;at b;zero 2 c;at c;load 3 0 4;"
            + "store 3 0 5;zero 3 d;at d;out 3;less 1 2 e;at e;load 4 1 0;out 4;out 3;load 5 1 0;halt;";
        for (String head : heads) {
            for (int sort = 0; sort < 3; sort++) {
                int by8 = longAs(head + queues[sort].replace("#", "8") + body);
                int least = 1;
                while (longAs(head + queues[sort].replace("#", "" + least) + body) > by8) {
                    least++;
                }
                for (int told = 1; told <= 8; told += 7) {
                    due("need(" + sort + ") by " + head, told(head + queues[sort].replace("#", "" + told) + body).need(sort), least);
                }
            }
        }
    }

    /** Promise 23: "-2: LONG isn't in 999 by 8" */
    static void promise23_notIn999() {
        TwinThreads x = told(NEVER_DONE);
        due("never", x.need(0) + x.need(1) + x.need(2), -6);
        due("999", told(rounds(156, 1)).need(1), 1);
        due("1000", told("span 10;" + rounds(158, 1)).need(1), -2);
        String outs = "set 0 92;set 1 1;at a;sub 0 0 1;out 1;out 1;zero 0 b;jump a;at b;";
        due("by 8 it is in 999", longAs("span 40;queues 1 1 8;" + outs) > 0, true);
        due("by 1 it isn't", longAs("span 40;queues 1 1 1;" + outs), -2);
        due("what isn't in 999 is more", told("span 40;queues 1 1 1;" + outs).need(2) > 1, true);
    }

    /** Promise 23: "NONE: no such ones" (ahead of -2) */
    static void promise23_noSuchOnes() {
        for (String text : new String[] {"set 0 1;halt;", NEVER_DONE}) {
            TwinThreads x = told(text);
            for (int sort : new int[] {-1, 3, 4, MIN, MAX}) {
                due("need(" + sort + ")", x.need(sort), -1);
            }
        }
    }

    /** Promise 24: "for a TURN t 1 .. 200"; "NONE: no such t" (ahead of -2) */
    static void promise24_noSuchT() {
        due("bestSpan(1)", told("set 0 1;halt;").bestSpan(1), 1);
        due("bestSpan(200)", told("set 0 1;halt;").bestSpan(200), 1);
        for (String text : new String[] {"set 0 1;halt;", NEVER_DONE}) {
            TwinThreads x = told(text);
            for (int t : new int[] {0, -1, 201, 202, MIN, MAX}) {
                due("bestSpan(" + t + ")", x.bestSpan(t), -1);
            }
        }
    }

    /** Promise 24: "is least, the first" (of 1 .. 40) */
    static void promise24_theFirstOfTheLeast() {
        due("40", told(times(40, "set 0 1;")).bestSpan(200), 40);
        due("all the same", new TwinThreads().bestSpan(1), 1);
        TwinThreads x = told("set 0 1;set 0 2;set 0 3;set 0 4;halt;");
        due("longWith(4, 9)", x.longWith(4, 9), 18);
        due("longWith(2, 9)", x.longWith(2, 9), 14);
        due("longWith(3, 9)", x.longWith(3, 9), 12);
        due("by a TURN that a span of 3 has behind a POINT", x.bestSpan(9), 3);
        due("by a TURN that none has", x.bestSpan(100), 4);
        for (int t : new int[] {1, 2, 5, 50, 199}) {
            TwinThreads y = told(MIXED);
            int best = 0;
            int least = 1000;
            for (int span = 40; span >= 1; span--) {
                int turns = y.longWith(span, t);
                best = turns <= least ? span : best;
                least = Math.min(turns, least);
            }
            due("bestSpan(" + t + ")", y.bestSpan(t), best);
        }
    }

    /** Promise 24: "-2: it is -2 by all" */
    static void promise24_minus2ByAll() {
        TwinThreads last = told(rounds(163, 2));
        due("longWith(38, 2)", last.longWith(38, 2), 999);
        due("999 by the least", last.bestSpan(2), 38);
        due("1000 by the least", last.bestSpan(3), -2);
        due("never DONE", told(NEVER_DONE).bestSpan(1), -2);
        due("DOWN", told("tries 1;set 0 1;halt;").bestSpan(1), -2);
        due("not by all, DONE ahead of it", told("tries 1;set 0 1;set 0 2;halt;").bestSpan(6), 2);
        TwinThreads some = told(rounds(161, 0));
        due("not by small ones", some.longWith(1, 1) + some.longWith(8, 1), -4);
        due("longWith(37, 1)", some.longWith(37, 1), 983);
        due("longWith(38, 1)", some.longWith(38, 1), 982);
        due("longWith(40, 1)", some.longWith(40, 1), 982);
        due("by others it isn't", some.bestSpan(1), 38);
    }

    /** Promise 25: "The most TURNS that such a SHOT as in matters() takes" */
    static void promise25_theMost() {
        TwinThreads x = told("out 1;set 0 1;halt;");
        due("to the POINT", x.slowest(0) * 10 + x.slowest(1), 55);
        go(x, 4);
        due("with the next TURN", x.slowest(0) * 10 + x.slowest(1), 11);
        TwinThreads none = told("out 0;halt;");
        for (int k = 0; k < 256; k++) {
            if (k / 32 != 0) {
                none.stick(1, k / 32, k % 32, false);
            }
        }
        due("of those that bring one", none.slowest(1), 2);
        TwinThreads span = told("span 40;" + times(40, "set 7 1;"));
        due("81 TURNS", span.slowest(0), 81);
    }

    /** Promise 25: "-2: none brings an ALARM" */
    static void promise25_none() {
        TwinThreads x = told("halt;");
        finish(x);
        due("DONE", x.slowest(0) + x.slowest(1), -4);
        StringBuilder all = new StringBuilder();
        for (int k = 0; k < 8; k++) {
            all.append("set ").append(k).append(" 1;");
        }
        due("all are overwritten", told(all.toString()).slowest(0), -2);
        due("none matters", told(all.toString()).matters(0), 0);
    }

    /** Promise 25: "NONE: no such THREAD" */
    static void promise25_noSuchThread() {
        TwinThreads x = told("halt;");
        TwinThreads y = told("halt;");
        finish(y);
        for (int which : NO_THREADS) {
            due("slowest(" + which + ")", x.slowest(which), -1);
            due("slowest(" + which + ") ahead of -2", y.slowest(which), -1);
        }
    }

    /** Promise 26: "A bit 0 .. 31 of a REGISTER" */
    static void promise26_bitsAndRegisters() {
        TwinThreads x = told("halt;");
        for (int which = 0; which < 2; which++) {
            for (int number = 0; number < 8; number++) {
                stick(x, which, number, 0, true);
                stick(x, which, number, 31, true);
                due("register", x.register(which, number), MIN + 1);
                due("of the other", x.register(1 - which, number), which == 0 ? 0 : MIN + 1);
            }
        }
        due("STUCK", x.count(17), 32);
    }

    /** Promise 26: "false: no such ones" (and nothing is STUCK) */
    static void promise26_noSuchOnes() {
        TwinThreads x = told("halt;");
        for (int which : NO_THREADS) {
            due("stick(" + which + ", 0, 0)", x.stick(which, 0, 0, true), false);
        }
        for (int number : new int[] {-1, 8, 9, 16, MIN, MAX}) {
            due("stick(0, " + number + ", 0)", x.stick(0, number, 0, true), false);
            due("stick(1, " + number + ", 0)", x.stick(1, number, 0, true), false);
        }
        for (int bit : new int[] {-1, 32, 33, 64, MIN, MAX}) {
            due("stick(0, 0, " + bit + ")", x.stick(0, 0, bit, true), false);
            due("stick(1, 7, " + bit + ")", x.stick(1, 7, bit, true), false);
        }
        due("STUCK", x.count(17), 0);
        for (int k = 0; k < 8; k++) {
            due("register " + k, x.register(0, k) | x.register(1, k), 0);
        }
    }

    /** Promise 26, Terms 2: "a bit that is as it was told whatever comes (at once" */
    static void promise26_atOnce() {
        TwinThreads x = told("halt;");
        stick(x, 0, 3, 5, true);
        due("1", x.register(0, 3), 32);
        flip(x, 1, 3, 5);
        stick(x, 1, 3, 5, false);
        due("0", x.register(1, 3), 0);
        flip(x, 0, 3, 6);
        due("the bits beside it are free", x.register(0, 3), 96);
    }

    /** Promise 26, Terms 2: "behind each STEP" (of every INSTRUCTION that lays a REGISTER) */
    static void promise26_behindEachStep() {
        String[] ones = {"set 0 0;", "add 0 1 2;", "sub 0 1 2;", "mul 0 1 2;", "xor 0 1 2;", "load 0 1 2;", "whole 0 1;",
            "bits 0 1;"};
        for (String one : ones) {
            for (int which = 0; which < 2; which++) {
                TwinThreads x = told(one + "halt;");
                stick(x, which, 0, 4, true);
                go(x, 2);
                due("behind " + one, x.register(which, 0), 16);
                due("of the other " + one, x.register(1 - which, 0), 0);
            }
        }
        TwinThreads y = told("set 0 99999;halt;");
        stick(y, 0, 0, 0, false);
        stick(y, 0, 0, 16, false);
        go(y, 1);
        due("what is laid there, then those bits", y.register(0, 0), 99999 - 1 - 65536);
    }

    /** Promise 26, Terms 2: "FLIP" (a bit that is STUCK stays, the FLIP is one) */
    static void promise26_behindAFlip() {
        TwinThreads x = told("halt;");
        stick(x, 0, 2, 31, true);
        stick(x, 0, 2, 30, false);
        flip(x, 0, 2, 31);
        flip(x, 0, 2, 30);
        flip(x, 0, 2, 29);
        due("register(0, 2)", x.register(0, 2), MIN + (1 << 29));
        due("a SHOT of it", x.shot(0, 2, 30, 0), 1);
        stick(x, 1, 2, 31, true);
        stick(x, 1, 2, 29, true);
        due("a SHOT of it", x.shot(0, 2, 30, 0), -2);
    }

    /** Promise 26, Terms 2: "going back, too" */
    static void promise26_goingBack() {
        TwinThreads x = told("set 0 1;halt;");
        go(x, 1);
        stick(x, 1, 5, 9, true);
        go(x, 1);
        turns(x, 14);
        due("of the TRAILER", x.register(1, 5), 512);
        due("of the LEADER", x.register(0, 5), 0);
        due("what is free went back", x.register(1, 0), 0);
        TwinThreads y = told("span 1;set 0 7;set 1 1;");
        go(y, 3);
        stick(y, 0, 0, 1, false);
        go(y, 2);
        turns(y, 14);
        due("a 0 of a 1 at the POINT", y.register(0, 0), 5);
        due("the other's", y.register(1, 0), 7);
    }

    /** Promise 26, Terms 2: "of one bit the last told is so" */
    static void promise26_theLastTold() {
        TwinThreads x = told("set 0 2;set 0 0;halt;");
        stick(x, 0, 0, 1, true);
        stick(x, 0, 0, 1, false);
        due("0", x.register(0, 0), 0);
        due("one bit", x.count(17), 1);
        go(x, 1);
        due("0 still", x.register(0, 0), 0);
        stick(x, 0, 0, 1, true);
        due("1", x.register(0, 0), 2);
        due("one bit", x.count(17), 1);
        go(x, 2);
        due("1 still", x.register(0, 0), 2);
    }

    /** Promise 26, Terms 2: "What others would have is laid there, then that bit" (both as if it were theirs) */
    static void promise26_bothAgree() {
        TwinThreads x = told("set 0 5;add 1 0 0;out 1;halt;");
        for (int which = 0; which < 2; which++) {
            stick(x, which, 0, 1, true);
            stick(x, which, 0, 0, false);
        }
        finish(x);
        due("no ALARM", x.count(3), 0);
        due("6 and 6", x.output(0), 12);
        due("PLAIN has none of it", x.plainOf(9, 3, 0), 10);
    }

    /** Promise 27: "Nothing is STUCK any more [...]: how many bits were" (none, one told twice, very many) */
    static void promise27_howMany() {
        TwinThreads x = told("halt;");
        due("none", x.loose(), 0);
        stick(x, 0, 0, 0, true);
        stick(x, 0, 0, 0, false);
        stick(x, 1, 0, 0, false);
        due("two", x.loose(), 2);
        due("count(17)", x.count(17), 0);
        due("none again", x.loose(), 0);
        TwinThreads y = told("halt;");
        for (int k = 0; k < 500; k++) {
            y.stick(k & 1, k / 64, k / 2 % 32, true);
        }
        due("count(17)", y.count(17), 500);
        due("500", y.loose(), 500);
        due("none", y.loose(), 0);
    }

    /** Promise 27: "(bits are as they are then)" */
    static void promise27_bitsAreAsTheyAre() {
        TwinThreads x = told("set 0 0;halt;");
        stick(x, 0, 0, 3, true);
        stick(x, 1, 7, 31, true);
        x.loose();
        due("the LEADER's", x.register(0, 0), 8);
        due("the TRAILER's", x.register(1, 7), MIN);
        flip(x, 1, 7, 31);
        due("a FLIP of it", x.register(1, 7), 0);
        go(x, 1);
        due("a STEP", x.register(0, 0), 0);
        stick(x, 0, 1, 1, true);
        x.loose();
        go(x, 1);
        turns(x, 14);
        due("going back", x.register(0, 1), 0);
    }

    /** Promise 28: "How many of the PLACE, REGISTERS, FLOATS" (from none to all 13) */
    static void promise28_noneToAll() {
        for (int which = 0; which < 2; which++) {
            TwinThreads x = told("halt;");
            due("none", x.strays(which), 0);
            for (int k = 0; k < 8; k++) {
                flip(x, which, k, 31);
                flip(x, which, k, 0);
                due("REGISTERS", x.strays(which), k + 1);
            }
            for (int k = 0; k < 4; k++) {
                flip(x, which + 2, k, 31);
                due("FLOATS", x.strays(which), k + 9);
            }
            flip(x, which + 4, 0, 5);
            due("the PLACE", x.strays(which), 13);
            due("of the other", x.strays(1 - which), 0);
        }
    }

    /** Promise 28: "that goes from the last POINT on, with a memory as MEMORY is" */
    static void promise28_fromTheLastPointOn() {
        TwinThreads x = told("span 3;data 5 9;set 0 4;store 0 7 5;set 1 1;load 2 7 5;add 2 2 1;halt;");
        go(x, 6);
        due("at the span", x.strays(0) * 10 + x.strays(1), 0);
        go(x, 1);
        due("behind the POINT", x.strays(0) * 10 + x.strays(1), 0);
        go(x, 2);
        due("MEMORY as it is now", x.strays(0) * 10 + x.strays(1), 0);
        due("it is 4", x.register(0, 2), 4);
        flip(x, 1, 2, 0);
        go(x, 2);
        due("the flipped one", x.strays(0) * 10 + x.strays(1), 1);
        turns(x, 14);
        due("none behind an ALARM", x.strays(0) * 10 + x.strays(1), 0);
        TwinThreads stuck = told("span 1;set 0 1;set 1 1;halt;");
        stick(stuck, 0, 3, 0, true);
        stick(stuck, 1, 3, 0, true);
        due("it has nothing STUCK", stuck.strays(0) * 10 + stuck.strays(1), 11);
        go(stuck, 3);
        due("but what was so at the POINT", stuck.strays(0) * 10 + stuck.strays(1), 0);
    }

    /** Promise 28: "by as many STEPS as that one has (as far as they come)" */
    static void promise28_asFarAsTheyCome() {
        TwinThreads x = told("halt;set 0 1;set 1 1;halt;");
        flip(x, 4, 0, 0);
        due("PLACE", x.strays(0), 1);
        go(x, 2);
        due("STEPS", thread(x, 0, 1), 2);
        due("the one alone is HALTED at 0", x.strays(0), 3);
        due("the TRAILER has none", x.strays(1), 0);
        TwinThreads y = told("slack 2 4;set 0 1;set 0 2;set 0 3;halt;");
        go(y, 3);
        due("each by its own STEPS", y.strays(0) * 10 + y.strays(1), 0);
        due("STEPS", thread(y, 0, 1) * 10 + thread(y, 1, 1), 21);
    }

    /** Promise 28: "with a memory as MEMORY is" (its own stores come to a memory of its own) */
    static void promise28_itsOwnMemory() {
        TwinThreads x = told("data 31 6;set 0 4;store 0 7 31;load 1 7 31;load 2 7 30;halt;");
        go(x, 8);
        due("none", x.strays(0) * 10 + x.strays(1), 0);
        due("register 1", x.register(0, 1), 4);
        due("MEMORY", x.memory(31), 6);
        for (int address = 0; address < 32; address++) {
            TwinThreads y = told("data " + address + " 7;load 1 7 " + address + ";halt;");
            go(y, 1);
            due("a word at " + address, y.strays(0), 0);
            y.flip(0, 1, 1);
            due("another one at " + address, y.strays(0), 1);
        }
    }

    /** Promise 28: "NONE: no such THREAD" */
    static void promise28_noSuchThread() {
        TwinThreads x = told("halt;");
        for (int which : NO_THREADS) {
            due("strays(" + which + ")", x.strays(which), -1);
        }
    }

    /** Promise 29: "-2: no TURN was" (behind a POINT alone it is 0) */
    static void promise29_noTurnWas() {
        TwinThreads x = told("halt;");
        due("mean()", x.mean(), -2);
        x.go(0);
        due("mean() behind go(0)", x.mean(), -2);
        finish(x);
        due("mean() behind a POINT", x.mean(), 0);
    }

    /** Promise 29, Terms 3: "all AHEAD behind each TURN, added, by how many TURNS there were" (POINTS, ALARMS, too) */
    static void promise29_allTurns() {
        TwinThreads x = told("slack 3 4;tries 9;set 0 1;set 0 2;set 0 3;halt;");
        int[] ahead = {1, 2, 3, 2, 1, 0, 0, 1, 2, 3, 2, 1, 0, 0};
        int sum = 0;
        for (int k = 0; k < ahead.length; k++) {
            if (k == 6) {
                flip(x, 0, 7, 7);
            }
            go(x, 1);
            sum += ahead[k];
            due("mean() behind " + (k + 1), x.mean(), Float.floatToIntBits((float) sum / (float) (k + 1)));
        }
        due("DONE with one ALARM", x.count(12) * 10 + x.count(3), 11);
    }

    /** Promise 29, Terms 3: "both as floats (each nearest; nearest)" (many TURNS, quotients of all kinds) */
    static void promise29_nearest() {
        TwinThreads x = told("slack 8 9;span 37;at a;add 0 0 1;jump a;");
        int sum = 0;
        for (int k = 0; k < 160; k++) {
            go(x, 1);
            sum += x.count(5);
            due("mean() behind " + (k + 1), x.mean(), Float.floatToIntBits((float) sum / (float) (k + 1)));
        }
    }

    /** Promise 29, Terms 3: "all AHEAD behind each TURN, added" (of more TURNS than any other run has) */
    static void promise29_manyTurns() {
        TwinThreads x = told("slack 8 9;span 40;at a;set 0 1;jump a;");
        long sum = 0;
        int leader = 0;
        int trailer = 0;
        for (int turn = 1; turn <= 150000; turn++) {
            int ahead = leader - trailer;
            if (ahead >= 8 || ahead > 0 && leader == 40) {
                trailer++;
            } else if (leader < 40) {
                leader++;
            } else {
                leader = 0;
                trailer = 0;
            }
            sum += leader - trailer;
            if (turn % 300 == 0) {
                x.go(300);
            }
        }
        due("TURNS", x.count(1), 150000);
        due("mean()", x.mean(), Float.floatToIntBits((float) sum / (float) 150000));
    }

    /** Promise 30, Terms 3: "JOURNAL: what left, the latest 16" (15, 16, 17 of them) */
    static void promise30_theLatest16() {
        TwinThreads x = told("span 1;set 1 1;at a;store 0 0 0;add 0 0 1;jump a;");
        go(x, 3);
        for (int left = 1; left <= 19; left++) {
            go(x, left == 1 ? 3 : 9);
            int in = Math.min(16, left);
            due("left(0, 1) of " + left, x.left(0, 1), left - in);
            due("left(0, 0) of " + left, x.left(0, 0), left - in);
            due("left(0, 2) of " + left, x.left(0, 2), 3 * (left - in) + 2);
            due("the last of " + left, x.left(in - 1, 1), left - 1);
            due("behind the last", x.left(in, 1) + x.left(in, 2), 0);
            due("ahead of the first", x.left(-1, 1) + x.left(-1, 2), 0);
        }
    }

    /** Promise 30: "what 0 its ADDRESS (32 of an output)" (31 is a store's) */
    static void promise30_address() {
        TwinThreads x = told("set 0 9;store 0 7 31;out 0;store 0 7 0;halt;");
        finish(x);
        due("a store's", x.left(0, 0), 31);
        due("an output's", x.left(1, 0), 32);
        due("a store's", x.left(2, 0), 0);
        due("words", x.left(0, 1) + x.left(1, 1) + x.left(2, 1), 27);
    }

    /** Promise 30: "2 of which POINT it left (from 1 on)" */
    static void promise30_whichPoint() {
        TwinThreads x = told("span 2;out 0;out 0;set 0 1;set 0 2;out 0;halt;");
        finish(x);
        due("of the first", x.left(0, 2) * 10 + x.left(1, 2), 11);
        due("of the third", x.left(2, 2), 3);
    }

    /** Promise 30: "0 for no such ones" (k, what) */
    static void promise30_noSuchOnes() {
        TwinThreads x = told("set 0 9;store 0 7 31;out 0;halt;");
        due("none yet", x.left(0, 0) + x.left(0, 1) + x.left(0, 2), 0);
        finish(x);
        for (int k : new int[] {-1, 2, 3, 15, 16, -16, MIN, MAX}) {
            for (int what = 0; what < 3; what++) {
                due("left(" + k + ", " + what + ")", x.left(k, what), 0);
            }
        }
        for (int what : new int[] {-1, 3, 4, MIN, MAX}) {
            due("left(1, " + what + ")", x.left(1, what), 0);
        }
    }

    /** Promise 31, Terms 3: "it takes 8 for each that is in it" (NARROW; none; 16 at most) */
    static void promise31_narrow() {
        TwinThreads x = told("span 1;at a;store 0 0 0;jump a;");
        for (int left = 0; left < 19; left++) {
            due("takes() of " + left, x.takes(), 8 * Math.min(16, left));
            go(x, left == 0 ? 3 : 6);
        }
    }

    /** Promise 31, Terms 3: "WIDE as soon as an output did; it takes [...] 12 if it is WIDE" */
    static void promise31_wide() {
        TwinThreads x = told("span 1;store 0 0 1;out 0;store 0 0 2;halt;");
        go(x, 5);
        due("held, not left", x.takes(), 8);
        go(x, 1);
        due("the output left", x.takes(), 24);
        go(x, 3);
        due("a store more", x.takes(), 36);
        TwinThreads none = told("set 0 1;halt;");
        finish(none);
        due("none left", none.takes(), 0);
    }

    /** Promise 31, Terms 3: "NARROW as long as only stores left since the TEXT" (WIDE stays when the output is out of it) */
    static void promise31_wideStays() {
        TwinThreads x = told("span 1;out 0;at a;store 0 0 0;jump a;");
        go(x, 3 + 6 * 20);
        due("16 stores are in it", x.count(14) * 100 + x.left(0, 0), 1600);
        due("takes()", x.takes(), 192);
        due("a new TEXT", Check.tell(x, "store 0 0 1;halt;"), 2);
        finish(x);
        due("NARROW again", x.takes(), 8);
    }

    /** Promise 32: "n 1 .. 5"; "NONE: no such ones" (n) */
    static void promise32_noSuchN() {
        TwinThreads x = told(MIXED);
        for (int n : new int[] {0, -1, 6, 7, MIN, MAX}) {
            due("chance(0, " + n + ", 0)", x.chance(0, n, 0), -1);
            due("chance(-1, " + n + ", 2)", x.chance(-1, n, 2), -1);
        }
        due("chance(0, 1, 1)", x.chance(0, 1, 1) >= 0, true);
        due("chance(0, 5, 1)", x.chance(0, 5, 1) >= 0, true);
    }

    /** Promise 32: "from a seed 0 .. 2147483647 on"; "NONE: no such ones" (seed) */
    static void promise32_noSuchSeed() {
        TwinThreads x = told(MIXED);
        for (int seed : new int[] {-2, -3, MIN, MIN + 1}) {
            due("chance(" + seed + ", 1, 0)", x.chance(seed, 1, 0), -1);
        }
        due("chance(0, 1, 0)", x.chance(0, 1, 0) >= 0, true);
        due("chance(MAX, 1, 0)", x.chance(MAX, 1, 0) >= 0, true);
    }

    /** Promise 32: "NONE: no such ones" (what) */
    static void promise32_noSuchWhat() {
        TwinThreads x = told(MIXED);
        for (int what : new int[] {-1, 3, 4, MIN, MAX}) {
            due("chance(0, 1, " + what + ")", x.chance(0, 1, what), -1);
            due("chance(-1, 5, " + what + ")", x.chance(-1, 5, what), -1);
        }
    }

    private static long drawn;

    private static int draw(int modulo) {
        drawn = (drawn * 1103515245L + 12345L) % (1L << 31);
        return (int) (drawn / 65536 % modulo);
    }

    /** In how many an ALARM came, in how many it is DONE, how many ALARMS: each by an object of its own. */
    private static int[] byHand(String text, int seed, int n) {
        drawn = seed;
        int[] found = new int[3];
        for (int k = 0; k < n; k++) {
            TwinThreads x = told(text);
            x.go(draw(50));
            int sort = draw(4);
            int number = draw(8);
            x.flip(sort, number, draw(32));
            x.go(300 - x.count(1));
            found[0] += x.count(3) > 0 ? 1 : 0;
            found[1] += x.count(12);
            found[2] += x.count(3);
        }
        return found;
    }

    private static void chances(String text, int seed, int n) {
        TwinThreads x = told(text);
        int[] due = byHand(text, seed, n);
        for (int what = 0; what < 3; what++) {
            due("chance(" + seed + ", " + n + ", " + what + ")", x.chance(seed, n, what), due[what]);
        }
    }

    /** The first seed whose DRAWS are so many TURNS (these at least and at most), then a bit of a REGISTER. */
    private static int seedOf(int least, int most) {
        for (int seed = 0; seed < 1000000; seed++) {
            drawn = seed;
            int turns = draw(50);
            if (turns >= least && turns <= most && draw(4) < 2) {
                return seed;
            }
        }
        throw new IllegalStateException("there is no such seed");
    }

    /** The first seed whose DRAWS are a FLOAT that there isn't. */
    private static int seedOfNone() {
        for (int seed = 0; seed < 1000000; seed++) {
            drawn = seed;
            draw(50);
            if (draw(4) > 1 && draw(8) > 3) {
                return seed;
            }
        }
        throw new IllegalStateException("there is no such seed");
    }

    /** Promise 32, Terms 3: "without what is above 31 bits, is the next one" (great seeds, many DRAWS) */
    static void promise32_draws() {
        for (int seed : new int[] {0, 1, 2, 99999, 65535, 65536, 1 << 30, MAX - 1, MAX, 123456789}) {
            chances(MIXED, seed, 5);
            chances("slack 8 9;" + MIXED, seed, 5);
        }
    }

    /** Promise 32, Terms 3: "a bit (a DRAW modulo 32) flips" (of a REGISTER of which the lowest five bits matter alone) */
    static void promise32_bits() {
        StringBuilder text = new StringBuilder("span 40;slack 8 9;queues 8 8 8;");
        for (int k = 0; k < 40; k++) {
            text.append("load ").append(k % 8).append(' ').append(k % 8).append(" 0;");
        }
        int alarms = 0;
        for (int seed = 0; seed < 60; seed++) {
            chances(text.toString(), seed, 1);
            alarms += told(text.toString()).chance(seed, 1, 0);
        }
        due("some bits matter, others don't", alarms > 5 && alarms < 55, true);
    }

    /** Promise 32, Terms 3: "n times from FRESH on" (the DRAWS go on, each is FRESH) */
    static void promise32_nTimes() {
        for (int seed = 0; seed < 8; seed++) {
            for (int n = 1; n <= 5; n++) {
                chances("tries 2;" + MIXED, seed, n);
            }
        }
    }

    /** Promise 32: "(-1: that of the TEXT)" */
    static void promise32_seedOfTheText() {
        for (int seed : new int[] {0, 7, 99999}) {
            int[] due = byHand("seed " + seed + ";" + MIXED, seed, 5);
            TwinThreads x = told("seed " + seed + ";" + MIXED);
            for (int what = 0; what < 3; what++) {
                due("chance(-1, 5, " + what + ") by " + seed, x.chance(-1, 5, what), due[what]);
            }
        }
    }

    /** Promise 32, Terms 3: "TURNS (a DRAW modulo 50) go by" (none of them, 49 of them) */
    static void promise32_turnsGoBy() {
        TwinThreads one = told("halt;");
        due("flipped ahead of the only TURN", one.chance(seedOf(0, 0), 1, 0), 1);
        due("flipped behind it", one.chance(seedOf(1, 1), 1, 0), 0);
        TwinThreads fifty = told("span 12;" + times(24, "set 0 1;"));
        due("LONG", fifty.longBy(12), 50);
        due("flipped ahead of the last TURN", fifty.chance(seedOf(49, 49), 1, 0), 1);
        TwinThreads fortyNine = told(times(23, "set 0 1;"));
        due("LONG", fortyNine.longBy(8), 49);
        due("flipped behind it", fortyNine.chance(seedOf(49, 49), 1, 0), 0);
        due("flipped ahead of the last TURN", fortyNine.chance(seedOf(48, 48), 1, 0), 1);
    }

    /** Promise 32, Terms 3: "TURNS [...] go by" (as far as they come: what flips when it is DONE brings none) */
    static void promise32_doneAheadOfIt() {
        TwinThreads x = told("halt;");
        int late = seedOf(1, 49);
        due("ALARMS", x.chance(late, 1, 0) + x.chance(late, 1, 2), 0);
        due("DONE", x.chance(late, 1, 1), 1);
    }

    /** Promise 32, Terms 3: "flips, if there is such a one" (FLOATS have numbers 0 .. 3 alone) */
    static void promise32_ifThereIsSuchAOne() {
        TwinThreads x = told(times(40, "set 0 1;"));
        int none = seedOfNone();
        due("no ALARM", x.chance(none, 1, 0) + x.chance(none, 1, 2), 0);
        due("DONE", x.chance(none, 1, 1), 1);
        for (int seed = 0; seed < 40; seed++) {
            chances("tries 1;" + times(40, "set 0 1;"), seed, 1);
        }
    }

    /** Promise 32, Terms 3: "or 300 went by in all" (DONE with TURN 300, not with 301) */
    static void promise32_300InAll() {
        int none = seedOfNone();
        TwinThreads x = told(rounds(46, 2));
        due("LONG", x.longBy(8), 300);
        due("DONE with 300", x.chance(none, 1, 1), 1);
        TwinThreads y = told("span 10;" + rounds(47, 1));
        due("LONG", y.longBy(10), 301);
        due("not DONE with 300", y.chance(none, 1, 1), 0);
        due("never DONE", told(NEVER_DONE).chance(none, 5, 1), 0);
    }

    /** Promise 32, Terms 3: "then TURNS till it is DONE, DOWN" (no ALARM behind that) */
    static void promise32_tillDown() {
        String text = "tries 1;" + times(40, "add 0 0 1;");
        for (int seed = 0; seed < 20; seed++) {
            chances(text, seed, 5);
        }
        TwinThreads x = told(text);
        for (int seed = 0; seed < 20; seed++) {
            due("one ALARM a time", x.chance(seed, 5, 2), x.chance(seed, 5, 0));
            due("DONE or an ALARM", x.chance(seed, 5, 0) + x.chance(seed, 5, 1), 5);
        }
    }

    /** Promise 33: "how many TURNS there were" (none, some, all) */
    static void promise33_howManyTurns() {
        TwinThreads x = told("set 0 1;halt;");
        due("none", x.keep(), 0);
        go(x, 2);
        due("two", x.keep(), 2);
        finish(x);
        due("three", x.keep(), 3);
    }

    /** Promise 33: "(in place of one ahead)" */
    static void promise33_inPlaceOfOneAhead() {
        TwinThreads x = told("set 0 1;set 0 2;halt;");
        go(x, 1);
        x.keep();
        go(x, 2);
        due("keep()", x.keep(), 3);
        go(x, 1);
        due("back()", x.back(), 3);
        due("register(0, 0)", x.register(0, 0), 2);
        due("register(1, 0)", x.register(1, 0), 1);
    }

    /** Promise 34: "NONE: there is none" */
    static void promise34_noneThere() {
        TwinThreads x = new TwinThreads();
        due("a new object", x.back(), -1);
        due("a TEXT", Check.tell(x, "set 0 1;halt;"), 2);
        go(x, 1);
        due("none was kept", x.back(), -1);
        due("all stays", x.count(1) * 10 + x.register(0, 0), 11);
        x.keep();
        due("one is", x.back(), 1);
    }

    /** Promise 34: "All is as in the IMAGE (it stays)" */
    static void promise34_itStays() {
        TwinThreads x = told(MIXED);
        go(x, 7);
        x.keep();
        for (int k = 0; k < 3; k++) {
            x.flip(0, 2, 3);
            x.go(40);
            due("back()", x.back(), 7);
            due("count(1)", x.count(1), 7);
            due("register(0, 2)", x.register(0, 2), 0);
        }
        finish(x);
        due("back() when DONE", x.back(), 7);
        due("not DONE", x.count(12), 0);
        finish(x);
    }

    private static TwinThreads disturbed(int turns, int sort) {
        TwinThreads x = told("span 20;slack 3 6;queues 2 3 4;tries 5;" + MIXED);
        x.stick(0, 6, 1, true);
        x.stick(1, 6, 1, true);
        go(x, turns);
        x.flip(sort, 0, 0);
        x.go(4);
        return x;
    }

    /** Promise 34, Terms 4: "An IMAGE keeps all" (at many places, with ALARMS, STUCK bits, what left) */
    static void promise34_keepsAll() {
        for (int turns = 0; turns < 50; turns += 7) {
            for (int sort = 0; sort < 13; sort += 3) {
                List<Integer> due = seen(disturbed(turns, sort));
                TwinThreads x = disturbed(turns, sort);
                x.keep();
                x.stick(0, 5, 5, true);
                x.flip(3, 2, 1);
                x.loose();
                x.go(9);
                x.flip(1, 7, 7);
                x.go(100);
                x.back();
                same("back behind " + turns, seen(x), due);
            }
        }
    }

    /** ALARMS of all sorts but 5, each TURNS behind the one ahead of it. */
    private static TwinThreads alarmed(int times) {
        TwinThreads x = told("tries 9;at s;load 1 2 0;zero 3 a;at a;out 0;set 4 1;set 4 2;set 4 3;set 4 4;jump s;");
        int[][] flips = {{1, 1, 2, 0}, {3, 1, 3, 0}, {5, 1, 0, 0}, {16, 0, 7, 0}, {16, 12, 0, 3}, {1, 1, 2, 1}, {16, 3, 0, 0},
            {3, 1, 3, 1}};
        for (int k = 0; k < times; k++) {
            go(x, flips[k][0]);
            flip(x, flips[k][1], flips[k][2], flips[k][3]);
            go(x, 1);
            due("ALARMS", x.count(3), k + 1);
        }
        return x;
    }

    /** Promise 34, Terms 4: "An IMAGE keeps all" (each of the ALARMS that are kept, when eight others came) */
    static void promise34_keepsAlarms() {
        for (int times = 1; times <= 8; times++) {
            TwinThreads x = alarmed(times);
            x.keep();
            go(x, 20);
            for (int k = 0; k < 8; k++) {
                flip(x, 0, 7, 7);
                go(x, 17);
                due("ALARMS", x.count(3), times + k + 1);
                due("a POINT's", x.alarm(0, 0), 4);
            }
            x.back();
            same("ALARMS are as they were", seen(x), seen(alarmed(times)));
        }
    }

    /** Promise 34, Terms 4: "An IMAGE keeps all" (that it is DONE, DOWN, or neither) */
    static void promise34_keepsDoneAndDown() {
        TwinThreads x = told("tries 2;span 2;out 0;set 0 1;halt;");
        go(x, 4);
        flip(x, 0, 5, 5);
        go(x, 1);
        x.keep();
        flip(x, 0, 5, 5);
        go(x, 5);
        due("DOWN", x.count(13), 1);
        x.back();
        due("not DOWN", x.count(13), 0);
        finish(x);
        x.back();
        due("not DONE", x.count(12), 0);
        finish(x);
        x.keep();
        due("a new PAIR", Check.tell(x, "tries 1;out 0;halt;"), 3);
        stick(x, 0, 0, 0, true);
        go(x, 2);
        x.keep();
        x.loose();
        x.back();
        due("DOWN", x.count(13) * 10 + x.go(9), 10);
    }

    /** Promise 34, Terms 4: "An IMAGE keeps all" (what is STUCK then, not what is now; of all REGISTERS) */
    static void promise34_keepsStuck() {
        TwinThreads x = told("set 0 0;set 7 0;halt;");
        for (int k = 0; k < 8; k++) {
            stick(x, 0, k, k, true);
            stick(x, 1, k, k + 1, true);
            stick(x, 1, k, 31, false);
        }
        x.keep();
        x.loose();
        for (int k = 0; k < 8; k++) {
            stick(x, 0, k, k, false);
            stick(x, 1, k, 31, true);
        }
        x.back();
        due("count(17)", x.count(17), 24);
        for (int k = 0; k < 8; k++) {
            due("the LEADER's " + k, x.register(0, k), 1 << k);
            due("the TRAILER's " + k, x.register(1, k), 2 << k);
            flip(x, 0, k, k);
            flip(x, 1, k, k + 1);
            flip(x, 1, k, 31);
            due("the LEADER's " + k, x.register(0, k), 1 << k);
            due("the TRAILER's " + k, x.register(1, k), 2 << k);
        }
        go(x, 3);
        due("STUCK behind STEPS", x.register(0, 0) * 1000 + x.register(0, 7), 1128);
    }

    private static TwinThreads queuesOf(String text, int turns) {
        TwinThreads x = told("span 40;slack 8 9;queues 8 8 8;" + text);
        go(x, turns);
        return x;
    }

    private static void keepsQueue(String text, int sort, int least, int most, int later) {
        int found = 0;
        for (int turns = least; turns <= most; turns++) {
            if (queuesOf(text, turns).count(7 + sort) == 8) {
                found++;
                TwinThreads x = queuesOf(text, turns);
                x.keep();
                go(x, later);
                x.flip(sort == 0 ? 7 : sort == 1 ? 8 : 10, 0, 0);
                x.back();
                same("queue " + sort + " is as it was behind " + turns, seen(x), seen(queuesOf(text, turns)));
            }
        }
        due("it was full in some", found > 1, true);
    }

    /** Promise 34, Terms 4: "An IMAGE keeps all" (LOADS, full and gone round) */
    static void promise34_keepsLoads() {
        StringBuilder text = new StringBuilder();
        for (int k = 0; k < 26; k++) {
            text.append("data ").append(k).append(' ').append(100 + k).append(";load 0 7 ").append(k).append(';');
        }
        keepsQueue(text.toString(), 0, 8, 30, 17);
    }

    /** Promise 34, Terms 4: "An IMAGE keeps all" (BRANCHES, full and gone round) */
    static void promise34_keepsBranches() {
        StringBuilder text = new StringBuilder("set 1 1;");
        for (int k = 0; k < 26; k++) {
            char name = (char) ('a' + k);
            text.append("zero ").append(k % 3 == 0 || k == 7 ? 0 : 1).append(' ').append(name).append(";at ").append(name).append(';');
        }
        keepsQueue(text.toString(), 1, 8, 30, 17);
    }

    /** Promise 34, Terms 4: "An IMAGE keeps all" (HELD, full, those COMPARED and those not) */
    static void promise34_keepsHeld() {
        StringBuilder text = new StringBuilder("set 1 1;at s;");
        for (int k = 0; k < 8; k++) {
            text.append(k % 2 == 0 ? "out 0;" : "store 0 0 3;").append("add 0 0 1;");
        }
        keepsQueue(text + "jump s;", 2, 20, 40, 60);
    }

    private static TwinThreads leaving(int turns) {
        TwinThreads x = told("at a;out 0;store 0 0 0;add 0 0 1;set 1 1;jump a;");
        due("TURNS", goOn(x, turns), turns);
        return x;
    }

    /** Promise 34, Terms 4: "An IMAGE keeps all" (MEMORY, OUTPUT, JOURNAL, when all of them are others by then) */
    static void promise34_keepsWhatLeft() {
        for (int turns : new int[] {100, 600, 607}) {
            TwinThreads x = leaving(turns);
            x.keep();
            due("TURNS", goOn(x, 600), 600);
            x.back();
            same("what left is as it was", seen(x), seen(leaving(turns)));
        }
    }

    /** Promise 34, Terms 4: "An IMAGE keeps all" (the greatest AHEAD so far, MEAN, what was COMPARED) */
    static void promise34_keepsWhatIsCounted() {
        String text = "slack 0 9;span 12;" + times(20, "set 0 1;");
        TwinThreads x = told(text);
        go(x, 30);
        x.keep();
        flip(x, 5, 0, 5);
        go(x, 9);
        due("the greatest AHEAD", x.count(6) > 4, true);
        x.back();
        TwinThreads y = told(text);
        go(y, 30);
        same("what is counted is as it was", seen(x), seen(y));
        due("the greatest AHEAD", x.count(6), 1);
    }

    /** Promise 34, Terms 4: "all but the TAPE and the FAULT" */
    static void promise34_allButTapeAndFault() {
        TwinThreads x = told("set 0 1;halt;");
        x.feed(0x68616C74, 0x3B202020, 0x20202020, 0x20202020, 0x20202020);
        x.keep();
        due("feed()", x.feed(0x68616C74, 0x3B202020, 0x20202020, 0x20202020, 0x20202020), 40);
        x.back();
        due("the TAPE", x.feed(0x68616C74, 0x3B202020, 0x20202020, 0x20202020, 0x20202020), 60);
        due("text(61)", x.text(61), -2);
        due("text(4)", x.text(4), -1);
        x.back();
        due("the FAULT", x.fault(0) * 10 + x.fault(1), 14);
        due("an empty TAPE", x.text(1), -2);
    }

    /** Promise 19, Terms 4: "Nothing is changed by what is asked" (by none of them, in the midst of much) */
    static void promise19_nothingIsChanged() {
        for (int turns = 3; turns < 50; turns += 9) {
            TwinThreads x = disturbed(turns, 1);
            int image = x.back();
            for (int k = 0; k < 4; k++) {
                x.shot(k, k, k, k & 1);
                x.matters(k & 1);
                x.longBy(k + 1);
                x.longWith(k + 1, k + 1);
                x.need(k);
                x.bestSpan(k);
                x.slowest(k & 1);
                x.strays(k & 1);
                x.chance(-1, k, k);
                x.plain(99, k);
                x.plainOf(99, k, k);
                x.next();
                x.mean();
                x.takes();
                x.compared();
                thread(x, k, 3);
            }
            due("no IMAGE", image * 10 + x.back(), -11);
            same("asked behind " + turns, seen(x), seen(disturbed(turns, 1)));
        }
    }
}
