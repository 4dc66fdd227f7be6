import java.lang.management.ManagementFactory;
import java.nio.charset.StandardCharsets;

/** All calls of one run live in one room of some 7.3 million fields and elements, whatever 512 calls they are. */
final class RoomTest {
    private static final Check CHECK = new Check();
    private static final com.sun.management.ThreadMXBean BEAN =
        (com.sun.management.ThreadMXBean) ManagementFactory.getThreadMXBean();
    // Four bytes a field or element; what an object takes beside its fields is left out.
    private static final long ROOM = 4 * 7_300_000L;
    private static final String TEXT = "span 40;slack 3 9;queues 2 2 2;tries 9;at a;set 1 7;load 2 1 3;store 2 1 4;real 0 1;"
        + "plus 1 0 1;times 2 1 0;whole 4 2;less 0 1 b;out 1;at b;zero 3 a;";
    private static final int SORTS = 17;
    // The first ones are one call each, the others up to five.
    private static final int SINGLE = 11;

    public static void main(String[] args) {
        for (int sort = 0; sort < SORTS; sort++) {
            TwinThreads warm = new TwinThreads();
            long answers = run(warm, sort);
            long before = BEAN.getCurrentThreadAllocatedBytes();
            answers += run(new TwinThreads(), sort);
            long made = BEAN.getCurrentThreadAllocatedBytes() - before;
            CHECK.due("calls of sort " + sort + " answer", answers != 0, true);
            CHECK.due("bytes beyond the room by calls of sort " + sort, Math.max(0, made - ROOM), 0);
            System.out.println("a run of calls of sort " + sort + " makes " + made + " bytes");
        }
        CHECK.end();
    }

    private static long run(TwinThreads x, int sort) {
        byte[] text = TEXT.getBytes(StandardCharsets.ISO_8859_1);
        long sum = Check.feed(x, text) + x.text(text.length) + x.go(30);
        x.keep();
        for (int k = 0; k < (sort < SINGLE ? 480 : 96); k++) {
            sum += call(x, sort, k);
        }
        return sum;
    }

    private static long call(TwinThreads x, int sort, int k) {
        return switch (sort) {
            case 0 -> x.go(300);
            case 1 -> x.matters(k & 1);
            case 2 -> x.slowest(k & 1);
            case 3 -> x.bestSpan(k % 200 + 1);
            case 4 -> x.need(k % 3);
            case 5 -> x.chance(k, 5, 2);
            case 6 -> x.longBy(k % 40 + 1);
            case 7 -> x.longWith(k % 40 + 1, 9);
            case 8 -> x.plain(999, 3);
            case 9 -> x.plainOf(999, 3, k);
            case 10 -> x.strays(k & 1);
            case 11 -> x.shot(k % 13, 0, 1, 0) + x.mean();
            case 12 -> x.keep() + x.back();
            case 13 -> x.feed(0x68616C74, 0x3B61743B, 0, 0, 0) + x.text(k % 20);
            case 14 -> x.next() + x.count(k % 18) + x.queued(k % 3, 0, 0) + x.left(0, 1) + x.alarm(0, 0);
            case 15 -> Check.thread(x, k % 3, k % 5) + x.named(k) + x.fault(0) + x.register(0, 1) + x.real(0, 1);
            default -> (x.flip(k % 13, 0, 1) ? 1 : 0) + (x.stick(1, 2, k % 32, true) ? 1 : 0) + x.loose() + x.go(k % 40);
        };
    }
}
