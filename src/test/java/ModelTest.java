import java.util.Random;

/** Random texts and random calls: TwinThreads must answer as the Model does. */
final class ModelTest {
    private static final Check CHECK = new Check();
    private static final String[] NAMES = {"a", "b", "c", "loop", "finish", "x"};
    private static final int[] ODD = {-1, 0, 1, 2, 3, 4, 5, 7, 8, 9, 15, 16, 31, 32, 33, 39, 40, 41, 199, 200, 201, 256, 300,
        301, 999, 1000, -2, Integer.MIN_VALUE, Integer.MAX_VALUE};

    // What an object answers behind its 512th call is free; each answer that is checked is a call.
    private static final int MOST_CALLS = 512;
    private static final int DEAREST = 110;

    private final Random random;
    private final TwinThreads x = new TwinThreads();
    private final Model m = new Model();
    private final StringBuilder log = new StringBuilder();
    private final int[] seen;
    private boolean idles;

    private ModelTest(long seed, int[] seen) {
        random = new Random(seed);
        this.seen = seen;
    }

    public static void main(String[] args) {
        int runs = args.length > 0 ? Integer.parseInt(args[0]) : 5000;
        long from = args.length > 1 ? Long.parseLong(args[1]) : 0;
        int[] seen = new int[10];
        for (long seed = from; seed < from + runs && CHECK.wrongOnes() == 0; seed++) {
            ModelTest test = new ModelTest(seed, seen);
            test.run();
            if (CHECK.wrongOnes() != 0) {
                System.out.println("seed " + seed + ":" + test.log);
            }
        }
        for (int k = 1; k <= 6; k++) {
            System.out.println("alarms " + k + ": " + seen[k]);
            // So few runs may miss one sort.
            if (runs < 4000) {
                continue;
            }
            CHECK.due("whether alarms " + k + " came", seen[k] > 0, true);
        }
        System.out.println("done " + seen[8] + ", down " + seen[9]);
        CHECK.end();
    }

    private int upTo(int most) {
        return random.nextInt(most + 1);
    }

    private int odd(int most) {
        return random.nextInt(12) == 0 ? ODD[random.nextInt(ODD.length)] : upTo(most);
    }

    /** An INSTRUCTION that mostly leaves all as it is: a flipped PLACE goes unnoticed up to ALARM 5. */
    private String idleInstruction() {
        String[] idle = {"set 0 0", "load 0 1 0", "out 0", "store 0 0 0", "zero 0 a", "less 0 1 a", "under 0 1 b", "jump c", "halt"};
        return idle[upTo(idle.length - 1)];
    }

    private String instruction() {
        if (idles) {
            return idleInstruction();
        }
        int r = upTo(3);
        int s = upTo(3);
        int t = upTo(3);
        String w = NAMES[upTo(NAMES.length - 1)];
        switch (upTo(19)) {
            case 0: case 1: return "set " + r + " " + (random.nextBoolean() ? upTo(6) : upTo(99999));
            case 2: return "add " + r + " " + s + " " + t;
            case 3: return "sub " + r + " " + s + " " + t;
            case 4: return "mul " + r + " " + s + " " + t;
            case 5: return "xor " + r + " " + s + " " + t;
            case 6: case 7: return "load " + r + " " + s + " " + upTo(31);
            case 8: case 9: return "store " + r + " " + s + " " + upTo(31);
            case 10: return "out " + r;
            case 11: return "real " + upTo(3) + " " + r;
            case 12: return "whole " + r + " " + upTo(3);
            case 13: return "bits " + r + " " + upTo(3);
            case 14: return "plus " + upTo(3) + " " + upTo(3) + " " + upTo(3);
            case 15: return "times " + upTo(3) + " " + upTo(3) + " " + upTo(3);
            case 16: return random.nextInt(3) == 0 ? "jump " + w : "zero " + r + " " + w;
            case 17: return "less " + r + " " + s + " " + w;
            case 18: return "under " + upTo(3) + " " + upTo(3) + " " + w;
            default: return random.nextInt(4) == 0 ? "halt" : "out " + s;
        }
    }

    private String someText() {
        StringBuilder s = new StringBuilder();
        if (random.nextBoolean()) {
            s.append("span ").append(1 + upTo(39)).append(';');
        }
        if (random.nextBoolean()) {
            int low = upTo(8);
            s.append("slack ").append(low).append(' ').append(low + 1 + upTo(8 - low)).append(';');
        }
        if (random.nextBoolean()) {
            s.append("queues ").append(1 + upTo(7)).append(' ').append(1 + upTo(7)).append(' ').append(1 + upTo(7)).append(';');
        }
        if (random.nextBoolean()) {
            s.append("tries ").append(1 + upTo(8)).append(';');
        }
        if (random.nextBoolean()) {
            s.append("seed ").append(upTo(99999)).append(';');
        }
        for (int k = upTo(3); k > 0; k--) {
            s.append("data ").append(k * 3 + upTo(2)).append(' ').append(upTo(99999)).append(";\n");
        }
        idles = random.nextInt(6) == 0;
        int size = idles ? 2 + upTo(6) : upTo(random.nextInt(6) == 0 ? 41 : 25);
        int name = 0;
        for (int k = 0; k < size; k++) {
            while (name < NAMES.length && random.nextInt(4) == 0) {
                s.append("at ").append(NAMES[name++]).append(";");
            }
            s.append(instruction()).append(";");
        }
        while (name < NAMES.length) {
            s.append("at ").append(NAMES[name++]).append(";");
        }
        return s.toString();
    }

    private String spoilt(String text) {
        StringBuilder s = new StringBuilder(text);
        String signs = "0123456789;; \n\tabhalt9\u00ff";
        for (int k = 1 + upTo(1); k > 0 && s.length() > 0; k--) {
            int at = random.nextInt(s.length());
            char c = signs.charAt(random.nextInt(signs.length()));
            switch (upTo(3)) {
                case 0: s.setCharAt(at, c); break;
                case 1: s.insert(at, c); break;
                case 2: s.deleteCharAt(at); break;
                default:
                    int end = Math.min(s.length(), at + upTo(20));
                    s.insert(random.nextInt(s.length()), s.substring(at, end));
            }
        }
        return s.toString();
    }

    private void tellText() {
        String t = someText();
        if (random.nextInt(3) == 0) {
            t = spoilt(t);
        }
        if (t.length() > 700) {
            t = t.substring(0, 700);
        }
        log.append("\ntext ").append(t.replace('\n', ' '));
        for (int at = 0; at < t.length(); at += 20) {
            int[] n = new int[5];
            for (int k = 0; k < 20; k++) {
                n[k / 4] = n[k / 4] << 8 | (at + k < t.length() ? t.charAt(at + k) : ' ');
            }
            CHECK.due("feed", x.feed(n[0], n[1], n[2], n[3], n[4]), m.feed(n));
        }
        int n = random.nextInt(20) == 0 ? odd(700) : t.length();
        CHECK.due("text(" + n + ")", x.text(n), m.text(n));
        CHECK.due("fault(0)", x.fault(0), m.fault(0));
        CHECK.due("fault(1)", x.fault(1), m.fault(1));
    }

    private void run() {
        int before = CHECK.askedOnes();
        tellText();
        while (CHECK.askedOnes() - before <= MOST_CALLS - DEAREST && CHECK.wrongOnes() == 0) {
            if (random.nextInt(80) == 0) {
                look();
                tellText();
            }
            call();
        }
        look();
    }

    private void look() {
        for (int k = 0; k < 8; k++) {
            seen[Math.max(0, m.alarm(k, 0))]++;
        }
        seen[8] += m.count(12);
        seen[9] += m.count(13);
    }

    private void call() {
        int a = odd(2);
        int k = odd(8);
        switch (upTo(19)) {
            case 0: case 1: case 2: case 3: case 4:
                int n = random.nextInt(3) == 0 && !idles ? odd(300) : odd(idles ? 3 : 12);
                log.append("\ngo ").append(n);
                CHECK.due("go(" + n + ")", x.go(n), m.go(n));
                break;
            case 5: case 6: case 7: case 8:
                disturb();
                break;
            case 9:
                observe(a, k);
                break;
            case 10:
                for (int what = -1; what < 19; what++) {
                    CHECK.due("count(" + what + ")", x.count(what), m.count(what));
                }
                CHECK.due("next()", x.next(), m.next());
                break;
            case 11: case 12:
                imageOr();
                break;
            case 13:
                alone();
                break;
            case 14: case 15:
                dear();
                break;
            case 16:
                some();
                break;
            default:
                int sort = odd(12);
                int number = odd(3);
                int bit = odd(31);
                CHECK.due("shot", x.shot(sort, number, bit, a), m.shot(sort, number, bit, a));
                CHECK.due("strays(" + a + ")", x.strays(a), m.strays(a));
                CHECK.due("mean()", x.mean(), m.mean());
                break;
        }
    }

    private void flip(int sort, int number, int bit) {
        log.append("\nflip ").append(sort).append(' ').append(number).append(' ').append(bit);
        CHECK.due("flip", x.flip(sort, number, bit), m.flip(sort, number, bit));
    }

    private void disturb() {
        if (random.nextInt(6) == 0) {
            int which = odd(1);
            int number = odd(3);
            int bit = odd(4);
            boolean one = random.nextBoolean();
            log.append("\nstick ").append(which).append(' ').append(number).append(' ').append(bit).append(' ').append(one);
            CHECK.due("stick", x.stick(which, number, bit, one), m.stick(which, number, bit, one));
            if (random.nextBoolean()) {
                CHECK.due("stick", x.stick(1 - which, number, bit, one), m.stick(1 - which, number, bit, one));
            }
        } else if (random.nextInt(6) == 0) {
            log.append("\nloose");
            CHECK.due("loose()", x.loose(), m.loose());
        } else if (idles && random.nextBoolean()) {
            flip(4 + upTo(1), 0, upTo(2));
        } else {
            int sort = odd(12);
            int number = odd(3);
            int bit = random.nextBoolean() ? odd(5) : odd(31);
            flip(sort, number, bit);
            if (random.nextInt(3) == 0) {
                flip(sort > 8 ? (sort - 9 ^ 2) + 9 : sort ^ 1, number, bit);
            }
        }
    }

    private void observe(int a, int k) {
        for (int what = -1; what < 5; what++) {
            CHECK.due("thread(" + a + ", " + what + ")", Check.thread(x, a, what), m.thread(a, what));
            CHECK.due("alarm(" + k + ", " + what + ")", x.alarm(k, what), m.alarm(k, what));
            CHECK.due("left(" + k + ", " + what + ")", x.left(k, what), m.left(k, what));
            for (int sort = -1; sort < 4; sort++) {
                CHECK.due("queued(" + sort + ", " + k + ", " + what + ")", x.queued(sort, k, what), m.queued(sort, k, what));
            }
            CHECK.due("queued(2, 0, " + what + ")", x.queued(2, 0, what), m.queued(2, 0, what));
        }
        CHECK.due("register", x.register(a, k), m.register(a, k));
        CHECK.due("real", x.real(a, k), m.real(a, k));
        CHECK.due("memory", x.memory(k), m.memory(k));
        CHECK.due("output", x.output(k), m.output(k));
        CHECK.due("takes()", x.takes(), m.takes());
        CHECK.due("compared()", x.compared(), m.compared());
        int letters = random.nextInt(4) == 0 ? odd(99) : Check.letters(NAMES[upTo(NAMES.length - 1)]);
        CHECK.due("named(" + letters + ")", x.named(letters), m.named(letters));
        CHECK.due("fault(" + k + ")", x.fault(k), m.fault(k));
    }

    private void imageOr() {
        if (random.nextInt(3) == 0) {
            log.append("\nkeep");
            CHECK.due("keep()", x.keep(), m.keep());
        } else if (random.nextInt(4) == 0) {
            log.append("\nback");
            CHECK.due("back()", x.back(), m.back());
        }
    }

    private void alone() {
        int n = odd(60);
        int number = odd(8);
        for (int what = -1; what < 5; what++) {
            CHECK.due("plain(" + n + ", " + what + ")", x.plain(n, what), m.plain(n, what));
            CHECK.due("plainOf(" + n + ", " + what + ", " + number + ")", x.plainOf(n, what, number), m.plainOf(n, what, number));
        }
    }

    private void dear() {
        int span = odd(40);
        int t = odd(60);
        int a = odd(2);
        CHECK.due("longBy(" + span + ")", x.longBy(span), m.longBy(span));
        CHECK.due("longWith(" + span + ", " + t + ")", x.longWith(span, t), m.longWith(span, t));
        CHECK.due("need(" + a + ")", x.need(a), m.need(a));
        int seed = random.nextBoolean() ? -1 : random.nextInt();
        int n = odd(5);
        CHECK.due("chance(" + seed + ", " + n + ", " + a + ")", x.chance(seed, n, a), m.chance(seed, n, a));
        if (random.nextInt(4) == 0) {
            CHECK.due("matters(" + a + ")", x.matters(a), m.matters(a));
            CHECK.due("slowest(" + a + ")", x.slowest(a), m.slowest(a));
            CHECK.due("bestSpan(" + t + ")", x.bestSpan(t), m.bestSpan(t));
        }
    }

    private void some() {
        int which = upTo(1);
        for (int k = 0; k < 8; k++) {
            CHECK.due("register(" + which + ", " + k + ")", x.register(which, k), m.register(which, k));
            CHECK.due("real(" + which + ", " + k + ")", x.real(which, k), m.real(which, k));
        }
        for (int n = 0; n < 10; n++) {
            int k = upTo(42) - 1;
            CHECK.due("memory(" + k + ")", x.memory(k), m.memory(k));
            CHECK.due("output(" + k + ")", x.output(k), m.output(k));
            CHECK.due("left(" + k % 17 + ", 1)", x.left(k % 17, 1), m.left(k % 17, 1));
            CHECK.due("left(" + k % 17 + ", 0)", x.left(k % 17, 0), m.left(k % 17, 0));
        }
    }
}
