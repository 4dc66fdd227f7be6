import java.util.ArrayList;
import java.util.HashMap;
import java.util.List;
import java.util.Map;
import java.util.TreeMap;

/** The document a second time, written plainly with the Java library: what ModelTest measures TwinThreads by. */
final class Model {
    static final String WORDS = " span slack queues tries seed data at set add sub mul xor load store out real whole bits"
        + " plus times jump zero less under halt ";

    /** An INSTRUCTION: its word, its numbers, where it goes. */
    static final class Line {
        String word;
        int[] n = new int[3];
        String goes;
        int target;
    }

    /** A TEXT. */
    static final class Text {
        int span = 8;
        int low = 1;
        int high = 4;
        int[] queues = {4, 4, 4};
        int tries = 3;
        int seed;
        int[] data = new int[32];
        Map<String, Integer> names = new HashMap<>();
        List<Line> lines = new ArrayList<>();
        int count;
    }

    static final class Fault extends RuntimeException {
        private static final long serialVersionUID = 1;
        final int which;
        final int place;

        Fault(int which, int place) {
            this.which = which;
            this.place = place;
        }
    }

    /** Splits a text into TOKENS: the place of each, and the TOKEN itself. */
    static TreeMap<Integer, String> tokens(String s) {
        TreeMap<Integer, String> found = new TreeMap<>();
        int at = 0;
        while (at < s.length()) {
            char c = s.charAt(at);
            int end = at + 1;
            if (c == ' ' || c == '\n') {
                at++;
                continue;
            }
            while (c >= 'a' && c <= 'z' && end < s.length() && s.charAt(end) >= 'a' && s.charAt(end) <= 'z') {
                end++;
            }
            while (c >= '0' && c <= '9' && end < s.length() && s.charAt(end) >= '0' && s.charAt(end) <= '9') {
                end++;
            }
            found.put(at, s.substring(at, end));
            at = end;
        }
        return found;
    }

    /** Reads a text; throws its Fault. */
    static final class Parser {
        final String s;
        final TreeMap<Integer, String> tokens;
        final Text text = new Text();
        final List<String> told = new ArrayList<>();
        final TreeMap<Integer, String> wanted = new TreeMap<>();
        int place = -1;

        Parser(String s) {
            this.s = s;
            tokens = tokens(s);
        }

        String take() {
            Map.Entry<Integer, String> e = tokens.higherEntry(place);
            if (e == null) {
                place = s.length();
                throw new Fault(1, s.length());
            }
            place = e.getKey();
            return e.getValue();
        }

        int number(int least, int most) {
            String t = take();
            if (!t.matches("[0-9]+")) {
                throw new Fault(1, place);
            }
            java.math.BigInteger n = new java.math.BigInteger(t);
            if (n.compareTo(java.math.BigInteger.valueOf(least)) < 0 || n.compareTo(java.math.BigInteger.valueOf(most)) > 0) {
                throw new Fault(2, place);
            }
            return n.intValue();
        }

        String name() {
            String t = take();
            if (!t.matches("[a-z]{1,6}") || WORDS.contains(" " + t + " ")) {
                throw new Fault(1, place);
            }
            return t;
        }

        void once(String what) {
            if (told.contains(what)) {
                throw new Fault(3, place);
            }
            told.add(what);
        }

        Text read() {
            while (tokens.higherKey(place) != null) {
                line();
                if (!take().equals(";")) {
                    throw new Fault(1, place);
                }
                text.count++;
            }
            for (Map.Entry<Integer, String> e : wanted.entrySet()) {
                if (!text.names.containsKey(e.getValue())) {
                    throw new Fault(4, e.getKey());
                }
            }
            for (Line l : text.lines) {
                l.target = l.goes == null ? -1 : text.names.get(l.goes);
            }
            return text;
        }

        void line() {
            String w = take();
            if (w.equals("span")) {
                once(w);
                text.span = number(1, 40);
            } else if (w.equals("slack")) {
                once(w);
                text.low = number(0, 8);
                text.high = number(Math.max(1, text.low + 1), 9);
            } else if (w.equals("queues")) {
                once(w);
                text.queues = new int[] {number(1, 8), number(1, 8), number(1, 8)};
            } else if (w.equals("tries")) {
                once(w);
                text.tries = number(1, 9);
            } else if (w.equals("seed")) {
                once(w);
                text.seed = number(0, 99999);
            } else if (w.equals("data")) {
                int a = number(0, 31);
                once("data " + a);
                text.data[a] = number(0, 99999);
            } else if (w.equals("at")) {
                String n = name();
                once("at " + n);
                text.names.put(n, text.lines.size());
            } else if (w.matches("[a-z]+") && WORDS.contains(" " + w + " ")) {
                instruction(w);
            } else {
                throw new Fault(1, place);
            }
        }

        void instruction(String w) {
            if (text.lines.size() == 40) {
                throw new Fault(2, place);
            }
            Line l = new Line();
            l.word = w;
            int r = 7;
            int f = 3;
            int v = 99999;
            int[] most = switch (w) {
                case "set" -> new int[] {r, v};
                case "add", "sub", "mul", "xor" -> new int[] {r, r, r};
                case "load", "store" -> new int[] {r, r, 31};
                case "out", "zero" -> new int[] {r};
                case "real" -> new int[] {f, r};
                case "whole", "bits" -> new int[] {r, f};
                case "plus", "times" -> new int[] {f, f, f};
                case "less" -> new int[] {r, r};
                case "under" -> new int[] {f, f};
                default -> new int[0];
            };
            for (int k = 0; k < most.length; k++) {
                l.n[k] = number(0, most[k]);
            }
            if (w.equals("jump") || w.equals("zero") || w.equals("less") || w.equals("under")) {
                l.goes = name();
                wanted.put(place, l.goes);
            }
            text.lines.add(l);
        }
    }

    /** A THREAD. */
    static final class Th {
        int place;
        int steps;
        int[] r = new int[8];
        int[] f = new int[4];
        int[][] stuck = new int[8][32];

        Th copy() {
            Th c = new Th();
            c.place = place;
            c.steps = steps;
            c.r = r.clone();
            c.f = f.clone();
            for (int k = 0; k < 8; k++) {
                c.stuck[k] = stuck[k].clone();
            }
            return c;
        }

        void back(Th p) {
            place = p.place;
            r = p.r.clone();
            f = p.f.clone();
            steps = 0;
            force();
        }

        /** In stuck 0 is loose, 1 stuck at 0, 2 stuck at 1. */
        void force() {
            for (int k = 0; k < 8; k++) {
                for (int b = 0; b < 32; b++) {
                    if (stuck[k][b] == 1) {
                        r[k] &= ~(1 << b);
                    } else if (stuck[k][b] == 2) {
                        r[k] |= 1 << b;
                    }
                }
            }
        }

        int stuckCount() {
            int n = 0;
            for (int[] row : stuck) {
                for (int b : row) {
                    n += b == 0 ? 0 : 1;
                }
            }
            return n;
        }

        int strays(Th o) {
            int n = place == o.place ? 0 : 1;
            for (int k = 0; k < 8; k++) {
                n += r[k] != o.r[k] ? 1 : 0;
            }
            for (int k = 0; k < 4; k++) {
                n += f[k] != o.f[k] ? 1 : 0;
            }
            return n;
        }
    }

    static boolean lost(int bits) {
        return (bits >>> 23 & 255) == 255;
    }

    static int floatSum(int a, int b) {
        if (lost(a) || lost(b)) {
            return 2143289344;
        }
        return Float.floatToIntBits(Float.intBitsToFloat(a) + Float.intBitsToFloat(b));
    }

    static int floatProduct(int a, int b) {
        if (lost(a) || lost(b)) {
            return 2143289344;
        }
        return Float.floatToIntBits(Float.intBitsToFloat(a) * Float.intBitsToFloat(b));
    }

    static Line at(Text t, Th h) {
        return h.place < t.lines.size() ? t.lines.get(h.place) : null;
    }

    static boolean halted(Text t, Th h) {
        Line l = at(t, h);
        return l == null || l.word.equals("halt");
    }

    static int address(Line l, Th h) {
        if (!l.word.equals("load") && !l.word.equals("store")) {
            return 32;
        }
        return Math.floorMod(h.r[l.n[1]] + (long) l.n[2], 32);
    }

    static boolean goes(Line l, Th h) {
        return switch (l.word) {
            case "zero" -> h.r[l.n[0]] == 0;
            case "less" -> h.r[l.n[0]] < h.r[l.n[1]];
            default -> !lost(h.f[l.n[0]]) && !lost(h.f[l.n[1]])
                && Float.intBitsToFloat(h.f[l.n[0]]) < Float.intBitsToFloat(h.f[l.n[1]]);
        };
    }

    static boolean isBranch(Line l) {
        return l.word.equals("zero") || l.word.equals("less") || l.word.equals("under");
    }

    static boolean isHeld(Line l) {
        return l.word.equals("store") || l.word.equals("out");
    }

    /** What is the same for all THREADS: word is what a load takes, goes where a branch goes. */
    static void step(Line l, Th h, int word, boolean goes) {
        int a = l.n[0];
        int b = l.n[1];
        int c = l.n[2];
        int to = h.place + 1;
        switch (l.word) {
            case "set" -> h.r[a] = b;
            case "add" -> h.r[a] = h.r[b] + h.r[c];
            case "sub" -> h.r[a] = h.r[b] - h.r[c];
            case "mul" -> h.r[a] = h.r[b] * h.r[c];
            case "xor" -> h.r[a] = h.r[b] ^ h.r[c];
            case "load" -> h.r[a] = word;
            case "real" -> h.f[a] = Float.floatToIntBits((float) h.r[b]);
            case "whole" -> h.r[a] = lost(h.f[b]) ? 0 : (int) Float.intBitsToFloat(h.f[b]);
            case "bits" -> h.r[a] = h.f[b];
            case "plus" -> h.f[a] = floatSum(h.f[b], h.f[c]);
            case "times" -> h.f[a] = floatProduct(h.f[b], h.f[c]);
            case "jump" -> to = l.target;
            default -> to = goes ? l.target : to;
        }
        h.place = to % 64;
        h.steps++;
        h.force();
    }

    /** One of HELD: what the LEADER laid there, and the TRAILER beside it (null: not COMPARED). */
    static final class Held {
        int address;
        int word;
        int[] beside;
    }

    /** THE PAIR with all that is counted; what IMAGES keep. */
    static final class State {
        Text t;
        int span;
        int[] sizes;
        Th leader = new Th();
        Th trailer = new Th();
        Th point = new Th();
        int[] memory;
        List<Integer> output = new ArrayList<>();
        List<int[]> loads = new ArrayList<>();
        List<int[]> branches = new ArrayList<>();
        List<Held> held = new ArrayList<>();
        List<int[]> alarms = new ArrayList<>();
        List<int[]> journal = new ArrayList<>();
        int turns;
        int points;
        int since;
        int greatest;
        int leaderTurns;
        int trailerTurns;
        int compared;
        long aheads;
        int stores;
        boolean done;
        boolean down;

        State(Text t) {
            this.t = t;
            span = t.span;
            sizes = t.queues.clone();
            memory = t.data.clone();
        }

        State copy() {
            State c = new State(t);
            c.span = span;
            c.sizes = sizes.clone();
            c.leader = leader.copy();
            c.trailer = trailer.copy();
            c.point = point.copy();
            c.memory = memory.clone();
            c.output.addAll(output);
            loads.forEach(l -> c.loads.add(l.clone()));
            branches.forEach(l -> c.branches.add(l.clone()));
            for (Held h : held) {
                Held n = new Held();
                n.address = h.address;
                n.word = h.word;
                n.beside = h.beside == null ? null : h.beside.clone();
                c.held.add(n);
            }
            c.alarms.addAll(alarms);
            c.journal.addAll(journal);
            c.turns = turns;
            c.points = points;
            c.since = since;
            c.greatest = greatest;
            c.leaderTurns = leaderTurns;
            c.trailerTurns = trailerTurns;
            c.compared = compared;
            c.aheads = aheads;
            c.stores = stores;
            c.done = done;
            c.down = down;
            return c;
        }

        int ahead() {
            return leader.steps - trailer.steps;
        }

        int whyLeader() {
            Line l = at(t, leader);
            if (leader.steps == span) {
                return 1;
            }
            if (halted(t, leader)) {
                return 2;
            }
            if (ahead() == t.high) {
                return 3;
            }
            if (l.word.equals("load") && loads.size() == sizes[0] || isBranch(l) && branches.size() == sizes[1]
                || isHeld(l) && held.size() == sizes[2]) {
                return 4;
            }
            return 0;
        }

        Held firstOpen() {
            for (Held h : held) {
                if (h.beside == null) {
                    return h;
                }
            }
            return null;
        }

        int whyTrailer() {
            Line l = at(t, trailer);
            if (trailer.steps == span) {
                return 1;
            }
            if (halted(t, trailer)) {
                return 2;
            }
            if (ahead() < 1 || ahead() < t.low && whyLeader() == 0) {
                return 3;
            }
            if (l.word.equals("load") && loads.isEmpty() || isBranch(l) && branches.isEmpty()
                || isHeld(l) && firstOpen() == null) {
                return 4;
            }
            return 0;
        }

        /** Does a TURN; what it was, as next() tells it. */
        int turn() {
            if (done || down) {
                return -2;
            }
            turns++;
            int was;
            if (whyTrailer() == 0) {
                trailerTurns++;
                was = trailerTurn();
            } else if (whyLeader() == 0) {
                leaderTurns++;
                leaderTurn();
                was = 1;
            } else {
                was = pointTurn();
            }
            aheads += ahead();
            greatest = Math.max(greatest, ahead());
            return was;
        }

        void leaderTurn() {
            Line l = at(t, leader);
            int a = address(l, leader);
            int word = 0;
            boolean goes = isBranch(l) && goes(l, leader);
            if (l.word.equals("load")) {
                word = memory[a];
                for (Held h : held) {
                    word = h.address == a ? h.word : word;
                }
                loads.add(new int[] {a, word});
            } else if (isBranch(l)) {
                branches.add(new int[] {goes ? 1 : 0});
            } else if (isHeld(l)) {
                Held h = new Held();
                h.address = a;
                h.word = leader.r[l.n[0]];
                held.add(h);
            }
            step(l, leader, word, goes);
        }

        int trailerTurn() {
            Line l = at(t, trailer);
            int a = address(l, trailer);
            int word = 0;
            boolean goes = isBranch(l) && goes(l, trailer);
            if (l.word.equals("load")) {
                int[] first = loads.get(0);
                if (first[0] != a) {
                    return alarm(1);
                }
                loads.remove(0);
                word = first[1];
            } else if (isBranch(l)) {
                if (branches.get(0)[0] == 1 != goes) {
                    return alarm(2);
                }
                branches.remove(0);
            } else if (isHeld(l)) {
                Held h = firstOpen();
                if (h.address != a || h.word != trailer.r[l.n[0]]) {
                    return alarm(3);
                }
                h.beside = new int[] {a, trailer.r[l.n[0]]};
            }
            step(l, trailer, word, goes);
            return 0;
        }

        int pointTurn() {
            if (leader.strays(trailer) != 0) {
                return alarm(4);
            }
            if (leader.steps != trailer.steps || !loads.isEmpty() || !branches.isEmpty() || firstOpen() != null) {
                return alarm(5);
            }
            for (Held h : held) {
                if (h.address != h.beside[0] || h.word != h.beside[1]) {
                    return alarm(6);
                }
            }
            points++;
            since = 0;
            compared += leader.steps;
            for (Held h : held) {
                journal.add(new int[] {h.address < 32 ? h.address : 32, h.word, points});
                if (h.address < 32) {
                    memory[h.address] = h.word;
                    stores++;
                } else {
                    output.add(h.word);
                }
            }
            held.clear();
            leader.steps = 0;
            trailer.steps = 0;
            point = new Th();
            point.place = leader.place;
            point.r = leader.r.clone();
            point.f = leader.f.clone();
            done = halted(t, leader) && halted(t, trailer);
            return 2;
        }

        int alarm(int which) {
            alarms.add(new int[] {which, turns, leader.steps, trailer.steps});
            since++;
            leader.back(point);
            trailer.back(point);
            loads.clear();
            branches.clear();
            held.clear();
            down = since == t.tries;
            return 10 + which;
        }

        boolean flip(int sort, int number, int bit) {
            if (number < 0 || bit < 0 || bit > 31) {
                return false;
            }
            Th h = sort % 2 == 0 ? leader : trailer;
            switch (sort) {
                case 0, 1:
                    if (number > 7) {
                        return false;
                    }
                    h.r[number] ^= 1 << bit;
                    h.force();
                    return true;
                case 2, 3:
                    if (number > 3) {
                        return false;
                    }
                    h.f[number] ^= 1 << bit;
                    return true;
                case 4, 5:
                    if (number > 0 || bit > 5) {
                        return false;
                    }
                    h.place ^= 1 << bit;
                    return true;
                case 6, 7:
                    if (number >= loads.size() || sort == 6 && bit > 4) {
                        return false;
                    }
                    loads.get(number)[sort - 6] ^= 1 << bit;
                    return true;
                case 8:
                    if (number >= branches.size() || bit > 0) {
                        return false;
                    }
                    branches.get(number)[0] ^= 1;
                    return true;
                default:
                    return flipHeld(sort, number, bit);
            }
        }

        boolean flipHeld(int sort, int number, int bit) {
            if (sort < 9 || sort > 12 || number >= held.size() || sort % 2 == 1 && bit > 5) {
                return false;
            }
            Held h = held.get(number);
            if (sort == 9) {
                h.address ^= 1 << bit;
            } else if (sort == 10) {
                h.word ^= 1 << bit;
            } else if (h.beside == null) {
                return false;
            } else {
                h.beside[sort - 11] ^= 1 << bit;
            }
            return true;
        }
    }

    /** One THREAD alone. */
    static final class Alone {
        final Text t;
        final Th h;
        final int[] memory;
        final List<Integer> output = new ArrayList<>();

        Alone(Text t, Th from, int[] memory, int n) {
            this.t = t;
            h = new Th();
            h.place = from.place;
            h.r = from.r.clone();
            h.f = from.f.clone();
            this.memory = memory.clone();
            while (h.steps < n && !halted(t, h)) {
                Line l = at(t, h);
                if (l.word.equals("out")) {
                    output.add(h.r[l.n[0]]);
                } else if (l.word.equals("store")) {
                    this.memory[address(l, h)] = h.r[l.n[0]];
                }
                step(l, h, l.word.equals("load") ? this.memory[address(l, h)] : 0, isBranch(l) && goes(l, h));
            }
        }
    }

    String tape = "";
    Text text = new Text();
    int fault;
    int faultPlace = -1;
    State state = new State(text);
    State image;

    int feed(int... n) {
        if (tape.length() + 20 > 700) {
            return -1;
        }
        StringBuilder s = new StringBuilder(tape);
        for (int x : n) {
            s.append((char) (x >>> 24)).append((char) (x >>> 16 & 255)).append((char) (x >>> 8 & 255)).append((char) (x & 255));
        }
        tape = s.toString();
        return tape.length();
    }

    int text(int n) {
        if (n < 0 || n > tape.length()) {
            return -2;
        }
        String s = tape.substring(0, n);
        tape = "";
        fault = 0;
        faultPlace = -1;
        try {
            text = new Parser(s).read();
        } catch (Fault f) {
            fault = f.which;
            faultPlace = f.place;
            return -1;
        }
        state = new State(text);
        image = null;
        return text.count;
    }

    int fault(int what) {
        return what == 0 ? fault : what == 1 ? faultPlace : -1;
    }

    int named(int letters) {
        for (Map.Entry<String, Integer> e : text.names.entrySet()) {
            if (Check.letters(e.getKey()) == letters) {
                return e.getValue();
            }
        }
        return -1;
    }

    int go(int n) {
        if (n < 0 || n > 300) {
            return -1;
        }
        int k = 0;
        while (k < n && state.turn() != -2) {
            k++;
        }
        return k;
    }

    boolean flip(int sort, int number, int bit) {
        return state.flip(sort, number, bit);
    }

    int thread(int which, int what) {
        if (which != 0 && which != 1) {
            return -1001;
        }
        Th h = which == 0 ? state.leader : state.trailer;
        return switch (what) {
            case 0 -> h.place;
            case 1 -> h.steps;
            case 2 -> halted(text, h) ? 1 : 0;
            case 3 -> which == 0 ? state.whyLeader() : state.whyTrailer();
            default -> -1002;
        };
    }

    private static boolean in(int x, int least, int most) {
        return x >= least && x <= most;
    }

    int register(int which, int number) {
        return in(which, 0, 1) && in(number, 0, 7) ? (which == 0 ? state.leader : state.trailer).r[number] : 0;
    }

    int real(int which, int number) {
        return in(which, 0, 1) && in(number, 0, 3) ? (which == 0 ? state.leader : state.trailer).f[number] : 0;
    }

    int memory(int address) {
        return in(address, 0, 31) ? state.memory[address] : 0;
    }

    int output(int k) {
        List<Integer> o = state.output;
        List<Integer> kept = o.subList(Math.max(0, o.size() - 40), o.size());
        return in(k, 0, kept.size() - 1) ? kept.get(k) : 0;
    }

    int queued(int sort, int k, int what) {
        if (sort == 0 && in(k, 0, state.loads.size() - 1) && in(what, 0, 1)) {
            return state.loads.get(k)[what];
        }
        if (sort == 1 && in(k, 0, state.branches.size() - 1) && what == 0) {
            return state.branches.get(k)[0];
        }
        if (sort == 2 && in(k, 0, state.held.size() - 1)) {
            Held h = state.held.get(k);
            int[] b = h.beside == null ? new int[2] : h.beside;
            int[] all = {h.address, h.word, h.beside == null ? 0 : 1, b[0], b[1]};
            return in(what, 0, 4) ? all[what] : 0;
        }
        return 0;
    }

    int next() {
        return state.copy().turn();
    }

    int alarm(int k, int what) {
        int n = state.alarms.size();
        return in(k, 0, Math.min(n, 8) - 1) && in(what, 0, 3) ? state.alarms.get(n - 1 - k)[what] : -1;
    }

    int plain(int n, int what) {
        if (!in(n, 0, 999) || !in(what, 0, 3)) {
            return -1;
        }
        Alone a = new Alone(text, new Th(), text.data, n);
        return new int[] {a.h.place, halted(text, a.h) ? 1 : 0, a.h.steps, a.output.size()}[what];
    }

    int plainOf(int n, int sort, int number) {
        if (!in(n, 0, 999) || number < 0) {
            return 0;
        }
        Alone a = new Alone(text, new Th(), text.data, n);
        return switch (sort) {
            case 0 -> number < 8 ? a.h.r[number] : 0;
            case 1 -> number < 4 ? a.h.f[number] : 0;
            case 2 -> number < 32 ? a.memory[number] : 0;
            case 3 -> number < a.output.size() ? a.output.get(number) : 0;
            default -> 0;
        };
    }

    int compared() {
        return state.compared;
    }

    int shot(int sort, int number, int bit, int what) {
        State s = state.copy();
        if (!s.flip(sort, number, bit) || !in(what, 0, 1)) {
            return -1;
        }
        for (int n = 1; ; n++) {
            int was = s.turn();
            if (was == 2 || was == -2) {
                return -2;
            }
            if (was > 10) {
                return what == 0 ? n : was - 10;
            }
        }
    }

    int matters(int which) {
        if (!in(which, 0, 1)) {
            return -1;
        }
        int n = 0;
        for (int k = 0; k < 256; k++) {
            n += shot(which, k / 32, k % 32, 0) > 0 ? 1 : 0;
        }
        return n;
    }

    int slowest(int which) {
        if (!in(which, 0, 1)) {
            return -1;
        }
        int most = -2;
        for (int k = 0; k < 256; k++) {
            most = Math.max(most, shot(which, k / 32, k % 32, 0));
        }
        return most;
    }

    int lasts(int span, int[] sizes, int t) {
        State s = new State(text);
        s.span = span;
        s.sizes = sizes;
        while (s.turns < 999 && !s.done && !s.down) {
            if (s.turns + 1 == t) {
                s.turns++;
                s.alarm(7);
            } else {
                s.turn();
            }
        }
        return s.done ? s.turns : -2;
    }

    int longBy(int span) {
        return in(span, 1, 40) ? lasts(span, text.queues, 0) : -1;
    }

    int longWith(int span, int t) {
        return in(span, 1, 40) && in(t, 1, 200) ? lasts(span, text.queues, t) : -1;
    }

    int need(int sort) {
        if (!in(sort, 0, 2)) {
            return -1;
        }
        int[] sizes = text.queues.clone();
        sizes[sort] = 8;
        int most = lasts(text.span, sizes, 0);
        if (most == -2) {
            return -2;
        }
        for (sizes[sort] = 1; ; sizes[sort]++) {
            int n = lasts(text.span, sizes, 0);
            if (n != -2 && n <= most) {
                return sizes[sort];
            }
        }
    }

    int bestSpan(int t) {
        if (!in(t, 1, 200)) {
            return -1;
        }
        int best = -2;
        int least = Integer.MAX_VALUE;
        for (int span = 40; span >= 1; span--) {
            int n = longWith(span, t);
            if (n != -2 && n <= least) {
                least = n;
                best = span;
            }
        }
        return best;
    }

    boolean stick(int which, int number, int bit, boolean one) {
        if (!in(which, 0, 1) || !in(number, 0, 7) || !in(bit, 0, 31)) {
            return false;
        }
        Th h = which == 0 ? state.leader : state.trailer;
        h.stuck[number][bit] = one ? 2 : 1;
        h.force();
        return true;
    }

    int loose() {
        int n = count(17);
        state.leader.stuck = new int[8][32];
        state.trailer.stuck = new int[8][32];
        return n;
    }

    int strays(int which) {
        if (!in(which, 0, 1)) {
            return -1;
        }
        Th h = which == 0 ? state.leader : state.trailer;
        return h.strays(new Alone(text, state.point, state.memory, h.steps).h);
    }

    int mean() {
        return state.turns == 0 ? -2 : Float.floatToIntBits((float) state.aheads / (float) state.turns);
    }

    int left(int k, int what) {
        int n = state.journal.size();
        List<int[]> latest = state.journal.subList(Math.max(0, n - 16), n);
        return in(k, 0, latest.size() - 1) && in(what, 0, 2) ? latest.get(k)[what] : 0;
    }

    int takes() {
        return count(14) * (state.output.isEmpty() ? 8 : 12);
    }

    private long drawn;

    private int draw(int modulo) {
        drawn = (drawn * 1103515245L + 12345L) % (1L << 31);
        return (int) (drawn / 65536 % modulo);
    }

    int chance(int seed, int n, int what) {
        if (seed < -1 || !in(n, 1, 5) || !in(what, 0, 2)) {
            return -1;
        }
        drawn = seed == -1 ? text.seed : seed;
        int[] found = new int[3];
        for (int k = 0; k < n; k++) {
            State s = new State(text);
            int first = draw(50);
            for (int m = 0; m < first; m++) {
                s.turn();
            }
            int sort = draw(4);
            int number = draw(8);
            s.flip(sort, number, draw(32));
            while (s.turns < 300 && !s.done && !s.down) {
                s.turn();
            }
            found[0] += s.alarms.isEmpty() ? 0 : 1;
            found[1] += s.done ? 1 : 0;
            found[2] += s.alarms.size();
        }
        return found[what];
    }

    int keep() {
        image = state.copy();
        return state.turns;
    }

    int back() {
        if (image == null) {
            return -1;
        }
        state = image.copy();
        return state.turns;
    }

    int count(int what) {
        State s = state;
        int[] all = {text.lines.size(), s.turns, s.points, s.alarms.size(), s.since, s.ahead(), s.greatest, s.loads.size(),
            s.branches.size(), s.held.size(), s.stores, s.output.size(), s.done ? 1 : 0, s.down ? 1 : 0,
            Math.min(16, s.journal.size()), s.leaderTurns, s.trailerTurns, s.leader.stuckCount() + s.trailer.stuckCount()};
        return in(what, 0, 17) ? all[what] : -1;
    }
}
