import java.math.BigInteger;

/** Promise 6. */
public final class PushTest {
    private static final long[] LONGS = {0, 1, 2, 0x7fffffffL, 0x80000000L, 0xffffffffL, 0x100000000L, 0x123456789abcdef0L,
        Long.MAX_VALUE, Long.MIN_VALUE, Long.MIN_VALUE + 1, -2, -1};

    public static void main(String[] args) {
        theNumberTwoToThe64Fold();
        zerosOntoZero();
        theGreatestByPushes();
        aboveTheGreatest();
        ontoTheGreatest();
        Checks.finish("PushTest");
    }

    private static String call(long bits) {
        return "push(" + bits + ")";
    }

    private static Home pushes(Home home, long bits) {
        BigInteger more = new BigInteger(Long.toUnsignedString(bits));
        State next = home.state.withNumber(home.state.number().shiftLeft(64).add(more));
        return home.becomes(call(bits), mill -> mill.push(bits), next);
    }

    /** 'The NUMBER becomes its 2^64-fold and the number that the 64 bits are (without a sign)' */
    private static void theNumberTwoToThe64Fold() {
        for (long bits : LONGS) {
            pushes(Home.FRESH, bits);
            pushes(Home.SMALL, bits);
            pushes(Home.MIDDLE, bits);
            for (long first : LONGS) {
                pushes(pushes(Home.FRESH, first), bits);
                pushes(pushes(pushes(Home.SMALL, bits), first), bits);
            }
        }
    }

    /** 0 stays 0 however often it grows 2^64-fold: the zeros take no room. */
    private static void zerosOntoZero() {
        DigitMill mill = new DigitMill();
        for (int k = 0; k < 500; k++) {
            Checks.due("push(0) onto 0", mill.push(0), true);
        }
        Checks.due("bits()", mill.bits(), 0);
        Checks.due("push(-1)", mill.push(-1), true);
        Checks.due("bits()", mill.bits(), 64);
        Checks.due("word(0)", mill.word(0), -1);
        Checks.due("word(1)", mill.word(1), -1);
        Checks.due("word(2)", mill.word(2), 0);
    }

    /** 2^65472 - 1 becomes 2^65536 - 1, the greatest NUMBER. */
    private static void theGreatestByPushes() {
        Home ones = ones(65472);
        Home greatest = pushes(ones, -1);
        Checks.due("it is the greatest", greatest.state.number().equals(Checks.TOP), true);
        for (long bits : LONGS) {
            pushes(ones, bits);
        }
    }

    private static Home ones(int count) {
        Home power = Home.holdingPowerOfTwo(count);
        State less = power.state.withNumber(power.state.number().subtract(BigInteger.ONE));
        return power.then("add(-1)", mill -> mill.add(-1) ? 1 : 0, 1, less);
    }

    /** 'false, refused, when it would be above 2^65536 - 1': 65,472 bits are the most that can grow, whatever is pushed */
    private static void aboveTheGreatest() {
        int[] fits = {65407, 65408, 65439, 65440, 65441, 65470, 65471};
        int[] tooMany = {65472, 65473, 65503, 65504, 65505, 65534, 65535};
        for (int e : fits) {
            pushes(Home.holdingPowerOfTwo(e), 2);
            pushes(ones(e), -1);
            pushes(ones(e + 1), 0);
        }
        for (int e : tooMany) {
            refuses(Home.holdingPowerOfTwo(e));
            refuses(ones(e + 1 > 65535 ? 65535 : e + 1));
        }
    }

    private static void refuses(Home home) {
        long[] some = {0, 1, -1, Long.MIN_VALUE};
        for (long bits : some) {
            home.refuses(call(bits), mill -> mill.push(bits));
        }
    }

    private static void ontoTheGreatest() {
        refuses(Home.FULL);
        Home once = pushes(Home.holdingPowerOfTwo(65471), -1);
        refuses(once);
    }
}
