import java.util.Random;

/** What real, whole, bits, plus, times, under and mean() make of floats, against the Java machine's own. */
final class FloatTest {
    private static final Check CHECK = new Check();
    private static final int[] ODD = {0, 0x80000000, 1, 0x80000001, 2, 3, 0x7FFFFF, 0x800000, 0x800001, 0x807FFFFF, 0x80800000,
        0x3F800000, 0xBF800000, 0x3F800001, 0x3F7FFFFF, 0x3F000000, 0x3EFFFFFF, 0x3F000001, 0x4B000000, 0x4B800000,
        0x4B800001, 0xCB800000, 0x4EFFFFFF, 0x4F000000, 0xCF000000, 0xCF000001, 0x4F7FFFFF, 0x4F800000, 0x7F7FFFFF,
        0xFF7FFFFF, 0x7F7FFFFE, 0x7F000000, 0x7F800000, 0xFF800000, 0x7FC00000, 0x7F800001, 0xFFFFFFFF, 0x00400000,
        0x33800000, 0x34000000, 0x33FFFFFF, 0x20000000, 0x1FFFFFFF, 0x1F800000, 0x01000000, 0x00FFFFFF};
    private static final int[] ODD_INTS = {0, 1, -1, 16777215, 16777216, 16777217, 16777218, 16777219, -16777217, 33554433,
        33554434, 33554435, 33554438, 33554439, Integer.MAX_VALUE, Integer.MIN_VALUE, Integer.MIN_VALUE + 1,
        Integer.MAX_VALUE - 63, Integer.MAX_VALUE - 64, Integer.MAX_VALUE - 65, 99999, -99999};

    private TwinThreads x;
    private int asked;

    public static void main(String[] args) {
        FloatTest test = new FloatTest();
        Random random = new Random(7);
        for (int a : ODD) {
            for (int b : ODD) {
                test.pair(a, b);
            }
        }
        for (int k = 0; k < 60000; k++) {
            test.pair(random.nextInt(), random.nextInt());
            int a = near(random, ODD[random.nextInt(ODD.length)]);
            test.pair(a, near(random, a));
            test.pair(a, near(random, a ^ 0x80000000));
            test.pair(a, random.nextInt() & 0x80FFFFFF | (a & 0x7F800000) - (random.nextInt(30) << 23) & 0x7F800000);
        }
        for (int n : ODD_INTS) {
            test.real(n);
        }
        for (int k = 0; k < 30000; k++) {
            test.real(random.nextInt() >> random.nextInt(31));
        }
        lostOnes();
        CHECK.end();
    }

    private static int near(Random random, int bits) {
        return switch (random.nextInt(4)) {
            case 0 -> bits + random.nextInt(5) - 2;
            case 1 -> bits ^ 1 << random.nextInt(32);
            case 2 -> bits + (random.nextInt(61) - 30 << 23) + random.nextInt(9);
            default -> bits & 0xFF800000 | random.nextInt() & 0x7FFFFF;
        };
    }

    private void fresh(String text) {
        // One object answers for many numbers by its image, but not for more than 512 calls.
        if (x == null || asked > 350 || text != null) {
            x = Check.told(text == null ? "plus 2 0 1;times 3 0 1;whole 0 0;bits 1 1;under 0 1 u;halt;at u;set 2 1;halt;" : text);
            x.keep();
            asked = 0;
        }
        asked++;
        x.back();
    }

    private void lay(int sort, int number, int bits) {
        for (int bit = 0; bit < 32; bit++) {
            if ((bits >> bit & 1) == 1) {
                asked++;
                x.flip(sort, number, bit);
            }
        }
    }

    private void pair(int a, int b) {
        fresh(null);
        lay(2, 0, a);
        lay(2, 1, b);
        lay(3, 0, a);
        lay(3, 1, b);
        x.go(13);
        asked += 8;
        String call = Integer.toHexString(a) + ", " + Integer.toHexString(b);
        CHECK.due("plus " + call, x.real(0, 2), Model.floatSum(a, b));
        CHECK.due("times " + call, x.real(0, 3), Model.floatProduct(a, b));
        float f = Float.intBitsToFloat(a);
        CHECK.due("whole " + call, x.register(0, 0), Model.lost(a) ? 0 : (int) f);
        CHECK.due("bits " + call, x.register(0, 1), b);
        CHECK.due("under " + call, x.register(0, 2), !Model.lost(a) && !Model.lost(b) && f < Float.intBitsToFloat(b) ? 1 : 0);
    }

    private void real(int n) {
        fresh("real 0 0;halt;");
        lay(0, 0, n);
        x.go(1);
        CHECK.due("real " + n, x.real(0, 0), Float.floatToIntBits((float) n));
    }

    private static void lostOnes() {
        CHECK.due("the Model's sum of LOST", Model.floatSum(0x7F800000, 0), 2143289344);
        CHECK.due("the Model's beyond the greatest", Model.floatSum(0x7F7FFFFF, 0x7F7FFFFF), 2139095040);
        CHECK.due("the Model's beyond the least", Model.floatProduct(0xFF7FFFFF, 0x7F7FFFFF), -8388608);
    }
}
