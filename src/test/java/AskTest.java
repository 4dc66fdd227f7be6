/** Promises 19 to 34: what is asked is measured by doing it by hand through the other calls. */
final class AskTest {
    private static final Check CHECK = new Check();
    private static final String BODY = "data 2 9;set 0 3;set 1 1;at a;load 2 0 0;mul 3 2 0;store 3 0 1;out 3;sub 0 0 1;"
        + "zero 0 b;jump a;at b;real 0 3;plus 1 0 0;bits 4 1;out 4;halt;";
    private static final String[] HEADS = {"", "span 3;", "span 40;slack 8 9;queues 8 8 8;", "slack 3 5;queues 1 1 2;tries 1;",
        "span 13;slack 0 1;queues 2 1 1;tries 9;seed 77;"};

    public static void main(String[] args) {
        shots();
        shotsOfOneBit();
        shotsByHand();
        lengths();
        lengthsByHand();
        needs();
        bestSpans();
        sticking();
        looseAndBack();
        straying();
        means();
        journal();
        chances();
        images();
        fullImages();
        alarmsInImages();
        nothingChanges();
        CHECK.end();
    }

    private static int[] byHand(TwinThreads x, int sort, int number, int bit) {
        x.keep();
        int[] found = {-2, -2};
        if (x.flip(sort, number, bit)) {
            for (int turns = 1; x.next() != -2; turns++) {
                int kind = x.next();
                if (kind > 10) {
                    x.go(1);
                    found = new int[] {turns, x.alarm(0, 0)};
                    break;
                }
                if (kind == 2) {
                    break;
                }
                x.go(1);
            }
        } else {
            found = new int[] {-1, -1};
        }
        x.back();
        return found;
    }

    private static void shots() {
        TwinThreads x = Check.told("set 0 1;out 0;halt;");
        x.go(2);
        CHECK.due("a bit that is out", x.shot(1, 0, 3, 0), 2);
        CHECK.due("which alarm", x.shot(1, 0, 3, 1), 3);
        CHECK.due("a bit of no use", x.shot(0, 7, 3, 0), 3);
        CHECK.due("which alarm", x.shot(0, 7, 3, 1), 4);
        CHECK.due("nothing else has an alarm to tell", x.alarm(0, 0), -1);
        CHECK.due("what 2", x.shot(0, 7, 3, 2), -1);
        CHECK.due("what -1", x.shot(0, 7, 3, -1), -1);
        CHECK.due("no such sort", x.shot(13, 0, 0, 0), -1);
        CHECK.due("no such number", x.shot(0, 8, 0, 0), -1);
        CHECK.due("no such bit", x.shot(0, 0, 32, 1), -1);
        CHECK.due("no such one of LOADS", x.shot(6, 0, 0, 0), -1);
        CHECK.due("matters(0)", x.matters(0), 256);
        CHECK.due("slowest(0)", x.slowest(0), 3);
        CHECK.due("matters(-1)", x.matters(-1), -1);
        CHECK.due("slowest(2)", x.slowest(2), -1);
        CHECK.due("slowest(-1)", x.slowest(-1), -1);
        TwinThreads y = Check.told("set 0 1;set 0 2;halt;");
        CHECK.due("overwritten", y.shot(0, 0, 5, 0), -2);
        CHECK.due("overwritten", y.shot(0, 0, 5, 1), -2);
        CHECK.due("matters but for one register", y.matters(1), 224);
        y.go(300);
        CHECK.due("no turns come", y.shot(0, 7, 3, 0), -2);
        CHECK.due("NONE goes first", y.shot(0, 7, 32, 0), -1);
        CHECK.due("matters when done", y.matters(0), 0);
        CHECK.due("slowest when done", y.slowest(1), -2);
        TwinThreads z = Check.told("set 0 1;halt;");
        z.flip(0, 5, 5);
        CHECK.due("an alarm that comes anyway", z.shot(0, 0, 0, 1), 4);
        CHECK.due("undone by the shot", z.shot(0, 5, 5, 0), -2);
        z.stick(0, 6, 6, false);
        z.flip(0, 5, 5);
        CHECK.due("a STUCK bit", z.shot(0, 6, 6, 0), -2);
        CHECK.due("matters but for those", z.matters(0), 256 - 32 - 1);
    }

    private static void shotsOfOneBit() {
        for (int free = 0; free < 256; free += 51) {
            for (int which = 0; which < 2; which++) {
                TwinThreads x = Check.told("halt;");
                for (int k = 0; k < 256; k++) {
                    if (k != free) {
                        x.stick(which, k / 32, k % 32, false);
                    }
                }
                CHECK.due("one bit matters", x.matters(which), 1);
                CHECK.due("one bit takes a turn", x.slowest(which), 1);
                CHECK.due("all of the other matter", x.matters(1 - which), 256);
                x.stick(which, free / 32, free % 32, false);
                CHECK.due("none matters", x.matters(which), 0);
                CHECK.due("none takes a turn", x.slowest(which), -2);
            }
        }
        TwinThreads late = Check.told("span 1;set 0 1;set 0 0;halt;");
        late.stick(0, 0, 0, true);
        CHECK.due("an alarm behind a point is none of a shot", late.shot(0, 0, 5, 0), -2);
        CHECK.due("it comes behind the point", late.go(3) * 100 + late.count(2) * 10 + late.shot(0, 0, 5, 0), 313);
    }

    private static void shotsByHand() {
        for (String head : HEADS) {
            for (int turns = 0; turns < 14; turns += 3) {
                for (int sort = 0; sort < 13; sort++) {
                    TwinThreads x = Check.told(head + BODY);
                    x.go(turns);
                    int number = sort < 2 ? turns % 5 : 0;
                    int bit = turns % 4;
                    int[] due = byHand(x, sort, number, bit);
                    CHECK.due("shot(" + sort + ", 0) behind " + turns, x.shot(sort, number, bit, 0), due[0]);
                    CHECK.due("shot(" + sort + ", 1) behind " + turns, x.shot(sort, number, bit, 1), due[1]);
                }
                for (int which = 0; which < 2; which++) {
                    int bits = 0;
                    int most = -2;
                    TwinThreads x = Check.told(head + BODY);
                    x.go(turns);
                    for (int k = 0; k < 256; k++) {
                        int due = x.shot(which, k / 32, k % 32, 0);
                        bits += due > 0 ? 1 : 0;
                        most = Math.max(most, due);
                    }
                    CHECK.due("matters(" + which + ")", x.matters(which), bits);
                    CHECK.due("slowest(" + which + ")", x.slowest(which), most);
                }
            }
        }
    }

    private static int turnsOf(String text) {
        TwinThreads x = Check.told(text);
        for (int k = 0; k < 4; k++) {
            x.go(k == 3 ? 99 : 300);
        }
        return x.count(12) == 1 ? x.count(1) : -2;
    }

    private static void lengths() {
        TwinThreads x = Check.told("set 0 1;set 0 2;set 0 3;halt;");
        CHECK.due("longBy(8)", x.longBy(8), 7);
        CHECK.due("longBy(3)", x.longBy(3), 7);
        CHECK.due("longBy(2)", x.longBy(2), 8);
        CHECK.due("longBy(1)", x.longBy(1), 9);
        CHECK.due("longBy(0)", x.longBy(0), -1);
        CHECK.due("longBy(41)", x.longBy(41), -1);
        CHECK.due("longWith(8, 1)", x.longWith(8, 1), 8);
        CHECK.due("longWith(8, 7)", x.longWith(8, 7), 14);
        CHECK.due("longWith(8, 8)", x.longWith(8, 8), 7);
        CHECK.due("longWith(1, 6)", x.longWith(1, 6), 12);
        CHECK.due("longWith(1, 9)", x.longWith(1, 9), 12);
        CHECK.due("longWith(0, 1)", x.longWith(0, 1), -1);
        CHECK.due("longWith(41, 1)", x.longWith(41, 1), -1);
        CHECK.due("longWith(1, 0)", x.longWith(1, 0), -1);
        CHECK.due("longWith(1, 201)", x.longWith(1, 201), -1);
        TwinThreads down = Check.told("tries 1;set 0 1;halt;");
        CHECK.due("DOWN by the alarm", down.longWith(8, 3), -2);
        CHECK.due("done ahead of the alarm", down.longWith(8, 4), 3);
        CHECK.due("DOWN by all spans", down.bestSpan(3), -2);
        TwinThreads loop = Check.told("at a;jump a;");
        CHECK.due("never done", loop.longBy(8), -2);
        CHECK.due("never done", loop.longWith(8, 8), -2);
        CHECK.due("never done", loop.bestSpan(8), -2);
        CHECK.due("never done", loop.need(0), -2);
        x.stick(0, 0, 0, false);
        x.flip(4, 0, 5);
        CHECK.due("from FRESH on", x.longBy(8), 7);
        CHECK.due("999", Check.told("set 0 166;set 1 1;at a;sub 0 0 1;zero 0 b;jump a;at b;halt;").longBy(1),
            turnsOf("span 1;set 0 166;set 1 1;at a;sub 0 0 1;zero 0 b;jump a;at b;halt;"));
        for (int n = 1; n < 120; n += 7) {
            String text = "set 0 " + n + ";set 1 1;at a;sub 0 0 1;zero 0 b;jump a;at b;halt;";
            CHECK.due("longBy(1) of " + n + " rounds", Check.told(text).longBy(1), 3 * (3 * n + 1) <= 999 ? 3 * (3 * n + 1) : -2);
        }
        CHECK.due("longBy(8) at 999", Check.told(rounds(156, 1)).longBy(8), 999);
        CHECK.due("longBy(10) at 1000", Check.told(rounds(158, 1)).longBy(10), -2);
        CHECK.due("longBy(1) at 999", Check.told(rounds(110, 2)).longBy(1), 999);
        CHECK.due("longBy(1) at 1002", Check.told(rounds(110, 3)).longBy(1), -2);
    }

    /** Steps: two, three of each round but the last one's jump, then more. */
    private static String rounds(int n, int more) {
        StringBuilder s = new StringBuilder("set 0 " + n + ";set 1 1;at a;sub 0 0 1;zero 0 b;jump a;at b;");
        for (int k = 0; k < more; k++) {
            s.append("set 2 2;");
        }
        return s.append("halt;").toString();
    }

    private static void lengthsByHand() {
        for (String head : HEADS) {
            TwinThreads x = Check.told(head + BODY);
            for (int span = 1; span <= 40; span++) {
                String other = head.replaceAll("span [0-9]+;", "") + "span " + span + ";" + BODY;
                CHECK.due("longBy(" + span + ") of " + head, x.longBy(span), turnsOf(other));
                int t = 1 + span * 5 % 60;
                CHECK.due("longWith(" + span + ", " + t + ") of " + head, x.longWith(span, t), withAlarm(other, t));
            }
        }
    }

    /** An ALARM by nothing is one that a flip brings in place of a POINT's or a STEP's TURN: both go back. */
    private static int withAlarm(String text, int t) {
        TwinThreads x = Check.told(text);
        x.go(t - 1);
        int atPoint = x.count(2);
        int turns = x.count(1);
        if (x.count(12) == 1) {
            return turns;
        }
        if (x.count(0) > 0 && text.contains("tries 1;")) {
            return -2;
        }
        TwinThreads y = Check.told(text);
        while (y.count(2) < atPoint) {
            y.go(1);
        }
        int lost = t - y.count(1);
        y.go(300);
        y.go(300);
        return y.count(1) + lost;
    }

    private static void needs() {
        String[] sizes = {"queues %d 4 4;", "queues 4 %d 4;", "queues 4 4 %d;"};
        String[] texts = {BODY, "slack 4 9;" + BODY, "span 40;slack 8 9;" + BODY, "slack 6 7;set 0 1;out 0;out 0;out 0;zero 1 a;at a;"
            + "zero 0 a;load 1 0 0;load 1 0 0;load 1 0 0;store 1 0 1;halt;"};
        for (String text : texts) {
            TwinThreads x = Check.told(text);
            for (int sort = 0; sort < 3; sort++) {
                int most = turnsOf(String.format(sizes[sort], 8) + text);
                int least = 1;
                while (turnsOf(String.format(sizes[sort], least) + text) > most) {
                    least++;
                }
                CHECK.due("need(" + sort + ") of " + text, x.need(sort), least);
            }
        }
        TwinThreads x = Check.told("queues 1 1 1;out 0;out 0;out 0;halt;");
        CHECK.due("need(2)", x.need(2), 3);
        CHECK.due("need(-1)", x.need(-1), -1);
        CHECK.due("need(3)", x.need(3), -1);
        String outs = "out 0;out 0;out 0;out 0;out 0;out 0;out 0;out 0;";
        CHECK.due("all eight", Check.told(outs + "halt;").need(2), 8);
        CHECK.due("nine by a span of 40 are two points", Check.told("span 40;" + outs + "out 0;halt;").need(2), 5);
        CHECK.due("nine by a span of 8 are two points, as five and four are", Check.told(outs + "out 0;halt;").need(2), 5);
    }

    private static void bestSpans() {
        for (String head : HEADS) {
            TwinThreads x = Check.told(head + BODY);
            for (int t = 1; t <= 200; t += 13) {
                int best = -2;
                int least = 1000;
                TwinThreads y = Check.told(head + BODY);
                for (int span = 1; span <= 40; span++) {
                    int turns = y.longWith(span, t);
                    if (turns != -2 && turns < least) {
                        least = turns;
                        best = span;
                    }
                }
                CHECK.due("bestSpan(" + t + ") of " + head, x.bestSpan(t), best);
            }
        }
        StringBuilder sets = new StringBuilder();
        for (int k = 0; k < 40; k++) {
            sets.append("set 0 1;");
        }
        CHECK.due("the greatest span", Check.told(sets.toString()).bestSpan(200), 40);
        CHECK.due("bestSpan(0)", new TwinThreads().bestSpan(0), -1);
        CHECK.due("bestSpan(201)", new TwinThreads().bestSpan(201), -1);
        CHECK.due("bestSpan(200)", new TwinThreads().bestSpan(200), 1);
    }

    private static void sticking() {
        TwinThreads x = Check.told("set 0 5;add 1 0 0;out 1;halt;");
        int[][] wrong = {{-1, 0, 0}, {2, 0, 0}, {0, -1, 0}, {0, 8, 0}, {1, 0, -1}, {1, 0, 32}};
        for (int[] w : wrong) {
            CHECK.due("stick(" + w[0] + ", " + w[1] + ", " + w[2] + ")", x.stick(w[0], w[1], w[2], true), false);
        }
        CHECK.due("nothing is STUCK", x.count(17), 0);
        CHECK.due("stick", x.stick(0, 7, 31, true), true);
        CHECK.due("at once", x.register(0, 7), Integer.MIN_VALUE);
        CHECK.due("not of the other", x.register(1, 7), 0);
        CHECK.due("stick again", x.stick(0, 7, 31, false), true);
        CHECK.due("the last told is so", x.register(0, 7), 0);
        CHECK.due("one bit", x.count(17), 1);
        CHECK.due("a flip of it is one", x.flip(0, 7, 31), true);
        CHECK.due("but it stays", x.register(0, 7), 0);
        x.stick(0, 0, 1, true);
        x.stick(0, 0, 0, false);
        x.stick(1, 0, 1, true);
        x.stick(1, 0, 0, false);
        CHECK.due("five bits", x.count(17), 5);
        CHECK.due("at once", x.register(1, 0), 2);
        x.go(2);
        CHECK.due("5 is 6 then", x.register(0, 0), 6);
        CHECK.due("of the trailer, too", x.register(1, 0), 6);
        x.go(5);
        CHECK.due("both agree", x.output(0), 12);
        CHECK.due("done", x.count(12), 1);
        TwinThreads y = Check.told("set 0 1;out 0;halt;");
        y.stick(0, 3, 4, true);
        y.go(5);
        CHECK.due("alarm 4", y.alarm(0, 0), 4);
        CHECK.due("behind going back, too", y.register(0, 3), 16);
        CHECK.due("the other goes back", y.register(1, 3), 0);
        y.loose();
        CHECK.due("bits are as they are then", y.register(0, 3), 16);
        y.go(5);
        CHECK.due("alarm 4 again", y.count(3), 2);
        CHECK.due("back as at the beginning", y.register(0, 3), 0);
        y.go(300);
        CHECK.due("done", y.count(12), 1);
        TwinThreads z = Check.told("data 9 255;load 0 1 9;bits 2 0;whole 3 0;set 4 0;xor 5 5 5;mul 6 6 6;sub 7 7 7;halt;");
        for (int k = 0; k < 8; k++) {
            z.stick(0, k, 8, true);
            z.stick(1, k, 8, true);
            z.stick(0, k, 0, false);
            z.stick(1, k, 0, false);
        }
        z.go(300);
        int[] due = {510, 256, 256, 256, 256, 256, 65792, 256};
        for (int k = 0; k < 8; k++) {
            CHECK.due("register " + k, z.register(1, k), due[k]);
        }
        CHECK.due("done", z.count(12), 1);
    }

    private static void looseAndBack() {
        TwinThreads x = Check.told("at a;add 0 0 1;jump a;");
        CHECK.due("loose() of nothing", x.loose(), 0);
        x.stick(0, 1, 0, true);
        x.stick(1, 1, 0, true);
        x.stick(1, 1, 0, true);
        x.go(17);
        CHECK.due("a point with STUCK bits", x.count(2), 1);
        CHECK.due("loose()", x.loose(), 2);
        CHECK.due("count(17)", x.count(17), 0);
        CHECK.due("loose() again", x.loose(), 0);
        x.flip(0, 1, 0);
        CHECK.due("loose", x.register(0, 1), 0);
        x.go(17);
        CHECK.due("an alarm", x.count(3), 1);
        CHECK.due("back as at the point", x.register(0, 1), 1);
        CHECK.due("back as at the point", x.register(0, 0), 4);
    }

    private static void straying() {
        TwinThreads x = Check.told("data 1 5;set 0 1;load 1 0 0;store 0 0 0;load 2 0 0;out 2;halt;");
        CHECK.due("strays(0)", x.strays(0), 0);
        CHECK.due("strays(-1)", x.strays(-1), -1);
        CHECK.due("strays(2)", x.strays(2), -1);
        x.flip(0, 7, 1);
        x.flip(2, 3, 1);
        x.flip(4, 0, 0);
        CHECK.due("a register, a float, the place", x.strays(0), 3);
        CHECK.due("not of the trailer", x.strays(1), 0);
        TwinThreads last = Check.told("data 31 5;load 1 0 31;halt;");
        last.go(1);
        CHECK.due("the last word of MEMORY", last.strays(0), 0);
        TwinThreads y = Check.told("data 1 5;set 0 1;load 1 0 0;store 0 0 0;load 2 0 0;out 2;halt;");
        y.go(3);
        y.flip(7, 0, 3);
        y.go(1);
        CHECK.due("the leader has it right", y.strays(0), 0);
        CHECK.due("the trailer took another word", y.strays(1), 1);
        y.go(4);
        CHECK.due("a store and a load of its own", y.strays(0), 0);
        CHECK.due("leader's word", y.register(0, 2), 1);
        CHECK.due("MEMORY has another one", y.memory(1), 5);
        CHECK.due("steps of its own", Check.thread(y, 1, 1), 4);
        y.go(3);
        CHECK.due("an alarm", y.count(3), 1);
        CHECK.due("none stray behind an alarm", y.strays(0) + y.strays(1), 0);
        y.go(300);
        CHECK.due("none stray behind a point", y.strays(0) + y.strays(1), 0);
        y.flip(1, 0, 0);
        CHECK.due("behind a point", y.strays(1), 1);
        TwinThreads s = Check.told("span 1;set 0 1;set 1 1;halt;");
        s.stick(0, 3, 0, true);
        s.stick(1, 3, 0, true);
        CHECK.due("the one alone has nothing STUCK", s.strays(0), 1);
        s.go(3);
        CHECK.due("it goes from the last point on", s.strays(0), 0);
    }

    private static void means() {
        TwinThreads x = Check.told("slack 2 4;set 0 1;set 0 2;set 0 3;halt;");
        CHECK.due("no turn was", x.mean(), -2);
        int[] aheads = {1, 2, 1, 2, 1, 0, 0};
        int sum = 0;
        for (int k = 0; k < aheads.length; k++) {
            x.go(1);
            sum += aheads[k];
            CHECK.due("mean() behind " + (k + 1), x.mean(), Float.floatToIntBits((float) sum / (float) (k + 1)));
        }
        TwinThreads y = Check.told("slack 8 9;span 40;at a;add 0 0 1;jump a;");
        sum = 0;
        for (int k = 0; k < 160; k++) {
            y.go(1);
            sum += y.count(5);
            CHECK.due("mean() behind " + (k + 1), y.mean(), Float.floatToIntBits((float) sum / (float) (k + 1)));
        }
    }

    private static void journal() {
        TwinThreads x = Check.told("span 3;set 1 1;at a;store 0 0 0;add 0 0 1;zero 2 a;");
        int stores = 0;
        for (int k = 0; k < 8; k++) {
            x.go(30);
            stores = x.count(10);
            int in = Math.min(16, stores);
            CHECK.due("count(14)", x.count(14), in);
            CHECK.due("NARROW", x.takes(), 8 * in);
            for (int j = 0; j < in; j++) {
                CHECK.due("left(" + j + ", 0)", x.left(j, 0), stores - in + j & 31);
                CHECK.due("left(" + j + ", 1)", x.left(j, 1), stores - in + j);
            }
        }
        CHECK.due("more than 16 left", stores > 17, true);
        CHECK.due("left(16, 1)", x.left(16, 1), 0);
        CHECK.due("left(-1, 1)", x.left(-1, 1), 0);
        CHECK.due("left(0, 3)", x.left(0, 3), 0);
        CHECK.due("left(0, -1)", x.left(0, -1), 0);
        TwinThreads y = Check.told("store 0 0 5;out 0;set 1 1;at a;store 0 0 0;add 0 0 1;zero 2 a;");
        y.go(9);
        CHECK.due("nothing left", y.takes(), 0);
        y.go(8);
        CHECK.due("WIDE", y.takes(), 12 * y.count(14));
        CHECK.due("two of the first point", y.left(1, 2), 1);
        y.go(300);
        CHECK.due("16 in it", y.count(14), 16);
        CHECK.due("the output isn't in it", y.left(0, 0) < 32, true);
        CHECK.due("WIDE as soon as an output did", y.takes(), 192);
        TwinThreads z = Check.told("span 1;store 0 0 5;out 0;halt;");
        z.go(3);
        CHECK.due("NARROW", z.takes(), 8);
        CHECK.due("left(0, 0)", z.left(0, 0), 5);
        z.keep();
        z.go(3);
        CHECK.due("WIDE", z.takes(), 24);
        CHECK.due("left(1, 0)", z.left(1, 0), 32);
        CHECK.due("left(1, 2)", z.left(1, 2), 2);
        z.back();
        CHECK.due("NARROW again by the image", z.takes(), 8);
        Check.tell(z, "halt;");
        CHECK.due("none left since the text", z.takes() + z.count(14) + z.left(0, 0), 0);
    }

    private static long last;

    private static int draw(int modulo) {
        last = (last * 1103515245L + 12345L) % (1L << 31);
        return (int) (last / 65536 % modulo);
    }

    private static int[] chancesByHand(String text, int seed, int n) {
        last = seed;
        int[] found = new int[3];
        for (int k = 0; k < n; k++) {
            TwinThreads x = Check.told(text);
            x.go(draw(50));
            int sort = draw(4);
            int number = draw(8);
            x.flip(sort, number, draw(32));
            x.go(300 - x.count(1));
            found[0] += x.count(3) > 0 ? 1 : 0;
            found[1] += x.count(12);
            found[2] += x.count(3);
        }
        return found;
    }

    private static void chances() {
        int[] seeds = {0, 1, 77, 99999, 123456789, Integer.MAX_VALUE};
        for (String head : HEADS) {
            TwinThreads x = Check.told(head + BODY);
            for (int seed : seeds) {
                for (int n = 1; n <= 5; n++) {
                    int[] due = chancesByHand(head + BODY, seed, n);
                    for (int what = 0; what < 3; what++) {
                        CHECK.due("chance(" + seed + ", " + n + ", " + what + ")", x.chance(seed, n, what), due[what]);
                    }
                }
            }
        }
        TwinThreads seeded = Check.told(HEADS[4] + BODY);
        int[] due = chancesByHand(HEADS[4] + BODY, 77, 5);
        for (int what = 0; what < 3; what++) {
            CHECK.due("chance(-1, 5, " + what + ")", seeded.chance(-1, 5, what), due[what]);
        }
        String loop = "tries 1;at a;add 0 0 1;jump a;";
        due = chancesByHand(loop, 5, 5);
        CHECK.due("alarms of a loop", Check.told(loop).chance(5, 5, 2), due[2]);
        CHECK.due("a loop isn't done", Check.told(loop).chance(5, 5, 1), 0);
        int[][] wrong = {{-2, 1, 0}, {Integer.MIN_VALUE, 1, 0}, {0, 0, 0}, {0, 6, 0}, {0, -1, 0}, {0, 1, -1}, {0, 1, 3}};
        for (int[] w : wrong) {
            CHECK.due("chance(" + w[0] + ", " + w[1] + ", " + w[2] + ")", seeded.chance(w[0], w[1], w[2]), -1);
        }
    }

    private static void images() {
        TwinThreads x = Check.told("slack 2 4;" + BODY);
        CHECK.due("back() without", x.back(), -1);
        x.go(5);
        x.stick(0, 7, 7, true);
        x.flip(1, 6, 6);
        CHECK.due("keep()", x.keep(), 5);
        TwinThreads same = Check.told("slack 2 4;" + BODY);
        same.go(5);
        same.stick(0, 7, 7, true);
        same.flip(1, 6, 6);
        x.go(9);
        x.loose();
        x.flip(2, 2, 2);
        x.go(100);
        CHECK.due("changed", x.count(1) > 50, true);
        CHECK.due("back()", x.back(), 5);
        x.go(20);
        CHECK.due("it stays", x.back(), 5);
        CHECK.due("all is as in the image", sumOf(x), sumOf(same));
        x.go(2);
        CHECK.due("keep() in place of it", x.keep(), 7);
        x.go(2);
        CHECK.due("back()", x.back(), 7);
        CHECK.due("a fault stays over back()", Check.tell(x, "span 0;"), -1);
        x.feed(0x68616C74, 0x3B202020, 0, 0, 0);
        CHECK.due("back()", x.back(), 7);
        CHECK.due("the FAULT isn't in it", x.fault(0), 2);
        CHECK.due("nor is the TAPE", x.text(5), 1);
        CHECK.due("no image behind a text", x.back(), -1);
        TwinThreads y = Check.told("set 0 1;halt;");
        y.keep();
        y.go(300);
        CHECK.due("done", y.count(12), 1);
        y.back();
        CHECK.due("not done", y.count(12), 0);
        CHECK.due("turns come again", y.go(300), 3);
    }

    /** What is full at the time of keep(), and overwritten ahead of back(). */
    private static void fullImages() {
        StringBuilder text = new StringBuilder("span 29;slack 8 9;queues 8 8 8;tries 9;set 1 1;");
        for (int k = 0; k < 8; k++) {
            text.append("data ").append(24 + k).append(' ').append(k + 50).append(';');
        }
        text.append("at top;");
        for (int k = 0; k < 8; k++) {
            text.append("load 2 7 ").append(31 - k).append(';');
        }
        text.append("out 3;store 3 3 0;out 3;store 3 7 31;out 3;store 3 3 2;out 3;store 3 3 3;");
        for (char c = 'a'; c < 'i'; c++) {
            text.append("zero ").append(c % 3).append(' ').append(c).append(";at ").append(c).append(';');
        }
        text.append("add 3 3 1;jump top;");
        TwinThreads last = loopedUpTo(text.toString(), 0);
        // Images at many places of the loop, so that each of the queues is full in one of them.
        for (int k = 0; k < 17 && last.count(13) == 0; k++) {
            TwinThreads x = loopedUpTo(text.toString(), k);
            last = loopedUpTo(text.toString(), k);
            int turns = x.count(1);
            CHECK.due("keep()", x.keep(), turns);
            x.go(100);
            for (int j = 0; j < 9; j++) {
                x.flip(1, 6, 6);
                x.go(70);
            }
            CHECK.due("back()", x.back(), turns);
            CHECK.due("all is as in the image " + k, sumOf(x), sumOf(last));
        }
        CHECK.due("alarms that came", last.count(3) > 1, true);
        CHECK.due("outputs that came", last.count(11) > 41, true);
    }

    private static TwinThreads loopedUpTo(String text, int images) {
        TwinThreads x = Check.told(text);
        for (int k = 0; k <= images; k++) {
            x.go(k < 8 ? 140 : 7);
            if (k % 3 == 0) {
                x.flip(0, 6, k);
            }
        }
        return x;
    }

    // TURNS, then the sort, number, bit of a FLIP that brings an ALARM with the next one, and which.
    private static final int[][] FLIPS = {{1, 1, 2, 0, 1}, {3, 1, 3, 0, 2}, {5, 1, 0, 0, 3}, {6, 0, 7, 0, 4}, {6, 12, 0, 3, 6},
        {1, 1, 2, 1, 1}, {6, 3, 0, 0, 4}, {3, 1, 3, 1, 2}};

    private static TwinThreads alarmed(int times) {
        TwinThreads x = Check.told("tries 9;load 1 2 0;zero 3 a;at a;out 0;halt;");
        for (int k = 0; k < times; k++) {
            x.go(FLIPS[k][0]);
            CHECK.due("flip", x.flip(FLIPS[k][1], FLIPS[k][2], FLIPS[k][3]), true);
            x.go(1);
            CHECK.due("alarms", x.count(3), k + 1);
            CHECK.due("alarm(0, 0)", x.alarm(0, 0), FLIPS[k][4]);
        }
        return x;
    }

    /** ALARMS of several sorts are kept, then all eight rows are overwritten by others. */
    private static void alarmsInImages() {
        for (int times = 1; times <= FLIPS.length; times++) {
            TwinThreads x = alarmed(times);
            x.keep();
            x.stick(0, 7, 7, true);
            x.go(300);
            CHECK.due("down behind nine", x.count(3) * 10 + x.count(13), 91);
            x.back();
            CHECK.due("all is as in the image", sumOf(x), sumOf(alarmed(times)));
        }
    }

    /** Of all that is seen by some 270 calls. */
    private static long sumOf(TwinThreads x) {
        long sum = 0;
        for (int part : Edge.seen(x)) {
            sum = sum * 31 + part;
        }
        return sum;
    }

    private static TwinThreads stuckBehind11(String head) {
        TwinThreads x = Check.told(head + BODY);
        x.go(11);
        x.stick(1, 5, 5, true);
        return x;
    }

    private static void nothingChanges() {
        for (String head : HEADS) {
            TwinThreads x = stuckBehind11(head);
            x.shot(0, 0, 0, 0);
            x.matters(1);
            x.longBy(3);
            x.longWith(3, 3);
            x.need(2);
            x.bestSpan(3);
            x.slowest(0);
            x.strays(1);
            x.chance(7, 5, 2);
            x.plain(99, 0);
            x.plainOf(99, 3, 0);
            CHECK.due("nothing is changed by what is asked", sumOf(x), sumOf(stuckBehind11(head)));
            CHECK.due("no image is made by what is asked", x.back(), -1);
        }
    }
}
