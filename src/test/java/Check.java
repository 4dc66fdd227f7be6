import java.util.NoSuchElementException;

/** What the tests share: it counts answers that are not the due ones, and feeds texts. */
final class Check {
    private int asked;
    private int wrong;

    void due(String call, long got, long want) {
        asked++;
        if (got != want) {
            wrong++;
            if (wrong <= 40) {
                System.out.println(call + " answered " + got + ", due is " + want);
            }
        }
    }

    void due(String call, boolean got, boolean want) {
        due(call, got ? 1 : 0, want ? 1 : 0);
    }

    int askedOnes() {
        return asked;
    }

    int wrongOnes() {
        return wrong;
    }

    void end() {
        System.out.println(asked + " answers, " + wrong + " not as due");
        if (wrong != 0 || asked == 0) {
            System.exit(1);
        }
    }

    static int feed(TwinThreads x, byte[] bytes) {
        int answer = 0;
        for (int at = 0; at < bytes.length; at += 20) {
            int[] n = new int[5];
            for (int k = 0; k < 20; k++) {
                int b = at + k < bytes.length ? bytes[at + k] & 255 : ' ';
                n[k / 4] = n[k / 4] << 8 | b;
            }
            answer = x.feed(n[0], n[1], n[2], n[3], n[4]);
        }
        return answer;
    }

    /** Feeds the whole text and answers what text() does. */
    static int tell(TwinThreads x, String text) {
        byte[] bytes = new byte[text.length()];
        for (int k = 0; k < bytes.length; k++) {
            bytes[k] = (byte) text.charAt(k);
        }
        feed(x, bytes);
        return x.text(bytes.length);
    }

    static TwinThreads told(String text) {
        TwinThreads x = new TwinThreads();
        if (tell(x, text) < 0) {
            throw new IllegalStateException("a test's text has fault " + x.fault(0) + " at " + x.fault(1) + ": " + text);
        }
        return x;
    }

    static int letters(String word) {
        int bits = 0;
        for (int k = 0; k < 6; k++) {
            bits = bits << 5 | (k < word.length() ? word.charAt(k) - 'a' + 1 : 0);
        }
        return bits;
    }

    /** The answer of thread(), or -1001 for IndexOutOfBoundsException, -1002 for NoSuchElementException. */
    static int thread(TwinThreads x, int which, int what) {
        try {
            return x.thread(which, what);
        } catch (IndexOutOfBoundsException e) {
            return -1001;
        } catch (NoSuchElementException e) {
            return -1002;
        }
    }
}
