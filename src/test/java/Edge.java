import java.lang.reflect.InvocationTargetException;
import java.lang.reflect.Method;
import java.util.ArrayList;
import java.util.Arrays;
import java.util.List;
import java.util.TreeMap;

/**
 * What the tests of single sentences share. Each static method whose name starts with promise and two digits is a
 * test of its own: its first remark says the promise's number and the sentence that it would miss.
 */
abstract class Edge {
    static final int MIN = Integer.MIN_VALUE;
    static final int MAX = Integer.MAX_VALUE;
    static final int NO_THREAD = -1001;
    static final int NO_WHAT = -1002;

    private static String test = "";
    private static int asked;
    private static final List<String> WRONG = new ArrayList<>();

    /** Runs all tests of the class, or those that are named. */
    static void runAll(Class<?> tests, String... named) {
        TreeMap<String, Method> found = new TreeMap<>();
        for (Method m : tests.getDeclaredMethods()) {
            if (m.getName().matches("promise[0-9][0-9]_.*") && (named.length == 0 || Arrays.asList(named).contains(m.getName()))) {
                found.put(m.getName(), m);
            }
        }
        List<String> failed = new ArrayList<>();
        for (Method m : found.values()) {
            if (!holds(m)) {
                failed.add(m.getName());
            }
        }
        WRONG.subList(0, Math.min(40, WRONG.size())).forEach(System.out::println);
        for (String name : failed) {
            System.out.println("FAILED " + name);
        }
        System.out.println(found.size() + " tests, " + failed.size() + " failed; " + asked + " answers");
        if (found.isEmpty() || !failed.isEmpty()) {
            System.exit(1);
        }
    }

    /** Runs one test: whether all its answers were due (and there were some). */
    static boolean holds(Method m) {
        int wrongBefore = WRONG.size();
        int askedBefore = asked;
        test = m.getName();
        try {
            m.setAccessible(true);
            m.invoke(null);
        } catch (InvocationTargetException e) {
            wrong("threw " + e.getCause());
        } catch (IllegalAccessException e) {
            wrong("can't be called: " + e);
        }
        if (asked == askedBefore) {
            wrong("asked nothing");
        }
        return WRONG.size() == wrongBefore;
    }

    private static void wrong(String what) {
        WRONG.add(test + ": " + what);
    }

    static void due(String call, long got, long want) {
        asked++;
        if (got != want) {
            wrong(call + " answered " + got + ", due is " + want);
        }
    }

    static void due(String call, boolean got, boolean want) {
        due(call, got ? 1 : 0, want ? 1 : 0);
    }

    static TwinThreads told(String text) {
        return Check.told(text);
    }

    static int thread(TwinThreads x, int which, int what) {
        return Check.thread(x, which, what);
    }

    static int why(TwinThreads x, int which) {
        return thread(x, which, 3);
    }

    /** So many TURNS, and all of them come. */
    static void go(TwinThreads x, int n) {
        due("go(" + n + ")", x.go(n), n);
    }

    /** TURNS up to any number, 300 a call. */
    static int goOn(TwinThreads x, int n) {
        int gone = 0;
        for (int rest = n; rest > 0; rest -= 300) {
            gone += x.go(Math.min(rest, 300));
        }
        return gone;
    }

    /** TURNS till it is DONE. */
    static void finish(TwinThreads x) {
        x.go(300);
        due("count(12), whether it is DONE", x.count(12), 1);
    }

    /** One TURN after another, each as next() told it. */
    static void turns(TwinThreads x, int... kinds) {
        for (int k = 0; k < kinds.length; k++) {
            due("next() ahead of TURN " + (k + 1) + " of these", x.next(), kinds[k]);
            due("go(1)", x.go(1), kinds[k] == -2 ? 0 : 1);
        }
    }

    static void flip(TwinThreads x, int sort, int number, int bit) {
        due("flip(" + sort + ", " + number + ", " + bit + ")", x.flip(sort, number, bit), true);
    }

    static void noFlip(TwinThreads x, int sort, int number, int bit) {
        due("flip(" + sort + ", " + number + ", " + bit + ")", x.flip(sort, number, bit), false);
    }

    /** FLIPS of the bits of a number that is 0, so that it is this. */
    static void lay(TwinThreads x, int sort, int number, int bits) {
        for (int bit = 0; bit < 32; bit++) {
            if ((bits >> bit & 1) == 1) {
                flip(x, sort, number, bit);
            }
        }
    }

    static void stick(TwinThreads x, int which, int number, int bit, boolean one) {
        due("stick(" + which + ", " + number + ", " + bit + ", " + one + ")", x.stick(which, number, bit, one), true);
    }

    static void fault(String text, int which, int place) {
        TwinThreads x = new TwinThreads();
        due("text() of \"" + shown(text) + "\"", Check.tell(x, text), -1);
        due("fault(0) of \"" + shown(text) + "\"", x.fault(0), which);
        due("fault(1) of \"" + shown(text) + "\"", x.fault(1), place);
    }

    /** A TEXT without a FAULT. */
    static TwinThreads fine(String text, int lines) {
        TwinThreads x = new TwinThreads();
        due("text() of \"" + shown(text) + "\"", Check.tell(x, text), lines);
        due("fault(0) of \"" + shown(text) + "\"", x.fault(0), 0);
        return x;
    }

    private static String shown(String text) {
        StringBuilder s = new StringBuilder();
        for (char c : text.toCharArray()) {
            s.append(c >= ' ' && c < 127 ? String.valueOf(c) : "<" + (int) c + ">");
        }
        return s.toString();
    }

    static String times(int n, String part) {
        return part.repeat(n);
    }

    /** A loop of 3 n + 1 STEPS, so many more behind it; two of them a TURN each and POINTS make its TURNS. */
    static String rounds(int n, int more) {
        return "set 0 " + n + ";set 1 1;at a;sub 0 0 1;zero 0 b;jump a;at b;" + times(more, "set 2 2;") + "halt;";
    }

    /** All that can be seen of an object by some 300 calls: no more than one of these and some 200 calls an object. */
    static List<Integer> seen(TwinThreads x) {
        List<Integer> all = new ArrayList<>();
        for (int what = 1; what < 18; what++) {
            all.add(x.count(what));
        }
        for (int which = 0; which < 2; which++) {
            for (int k = 0; k < 8; k++) {
                all.add(x.register(which, k));
                all.add(k < 4 ? x.real(which, k) : thread(x, which, k - 4));
            }
        }
        for (int k = 0; k < 40; k++) {
            all.add(x.output(k));
            all.add(k < 32 ? x.memory(k) : x.alarm(k - 32, 0) * 100000 + x.alarm(k - 32, 1));
        }
        for (int k = 0; k < 8; k++) {
            all.add(x.alarm(k, 2) * 100 + x.alarm(k, 3));
        }
        for (int k = 0; k < 16; k++) {
            all.add(x.left(k, 0));
            all.add(x.left(k, 1));
            all.add(x.left(k, 2));
        }
        for (int k = 0; k < x.count(9); k++) {
            for (int what = 0; what < 5; what++) {
                all.add(x.queued(2, k, what));
            }
        }
        for (int k = 0; k < 8; k++) {
            all.add(x.queued(0, k, 0));
            all.add(x.queued(0, k, 1));
            all.add(x.queued(1, k, 0));
        }
        all.addAll(Arrays.asList(x.mean(), x.takes(), x.compared(), x.next(), x.strays(0), x.strays(1)));
        return all;
    }

    /** Both must show the same. */
    static void same(String what, List<Integer> got, List<Integer> want) {
        due(what + ": how much is seen", got.size(), want.size());
        for (int k = 0; k < Math.min(got.size(), want.size()); k++) {
            due(what + ": number " + k + " of what is seen", got.get(k), want.get(k));
        }
    }
}
