import java.lang.management.ManagementFactory;

/** No call makes objects: all calls of one run live in one room. Only an exception that is thrown is one. */
final class RoomTest {
    private static final Check CHECK = new Check();
    private static final com.sun.management.ThreadMXBean BEAN =
        (com.sun.management.ThreadMXBean) ManagementFactory.getThreadMXBean();

    private static long allocated() {
        return BEAN.getThreadAllocatedBytes(Thread.currentThread().getId());
    }

    public static void main(String[] args) {
        byte[] text = ("slack 3 9;queues 2 2 2;at a;set 1 7;load 2 1 3;store 2 1 4;real 0 1;plus 1 0 1;times 2 1 0;whole 4 2;"
            + "less 0 1 b;out 1;at b;zero 3 a;").getBytes(java.nio.charset.StandardCharsets.ISO_8859_1);
        TwinThreads x = new TwinThreads();
        long answers = calls(x, text);
        long before = allocated();
        long asking = allocated() - before;
        before = allocated();
        answers += calls(x, text);
        long made = allocated() - before - asking;
        CHECK.due("bytes that calls make", made < 256 ? 0 : made, 0);
        CHECK.due("calls answer", answers != 0, true);
        before = allocated();
        TwinThreads y = new TwinThreads();
        made = allocated() - before - asking;
        System.out.println("a new object takes " + made + " bytes");
        CHECK.due("a new object is small", made < 40000, true);
        CHECK.due("text(0)", y.text(0), 0);
        CHECK.end();
    }

    private static long calls(TwinThreads x, byte[] text) {
        long sum = 0;
        for (int at = 0; at < text.length; at += 20) {
            x.feed(word(text, at), word(text, at + 4), word(text, at + 8), word(text, at + 12), word(text, at + 16));
        }
        sum += x.text(text.length);
        for (int k = 0; k < 12; k++) {
            sum += x.go(37) + (x.flip(k, 0, 1) ? 1 : 0) + x.register(0, 1) + x.real(1, 1) + x.memory(k) + x.output(k);
            sum += x.queued(k % 3, 0, 0) + x.next() + x.alarm(0, 0) + x.plain(999, 3) + x.plainOf(999, 3, k) + x.compared();
            sum += x.shot(0, 1, k, 0) + x.matters(1) + x.longBy(k + 1) + x.longWith(k + 1, 9) + x.need(k % 3) + x.bestSpan(k + 1);
            sum += x.slowest(0) + (x.stick(1, 2, k, true) ? 1 : 0) + x.strays(1) + x.mean() + x.left(k, 1) + x.takes();
            sum += x.chance(-1, 5, 2) + x.keep() + x.loose() + x.back() + x.count(k) + x.named(k) + x.fault(0) + x.thread(0, 3);
        }
        return sum;
    }

    private static int word(byte[] text, int at) {
        int word = 0;
        for (int k = at; k < at + 4; k++) {
            word = word << 8 | (k < text.length ? text[k] : ' ');
        }
        return word;
    }
}
