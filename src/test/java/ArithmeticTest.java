import java.math.BigInteger;

/** Promises 6, 7, 8, 12 and 13. */
public final class ArithmeticTest {
    public static void main(String[] args) {
        pushOrdinary();
        pushUpToTheLimit();
        powerOrdinary();
        powerAtTheLimit();
        powerRefused();
        addOrdinary();
        addAtTheEdges();
        addRefused();
        addWhereAZeroTakesTheCarry();
        wordAndBits();
        Checks.finish("ArithmeticTest");
    }

    private static void pushOrdinary() {
        long[] parts = {0, 1, -1, Long.MIN_VALUE, Long.MAX_VALUE, 0x123456789abcdef0L, 0xffffffffL, 1L << 32, 0};
        BigInteger want = BigInteger.ZERO;
        DigitMill mill = new DigitMill();
        for (long part : parts) {
            Checks.due("push(" + part + ")", mill.push(part), true);
            want = want.shiftLeft(64).add(unsigned(part));
            Checks.due("bits()", mill.bits(), want.bitLength());
            for (int k = 0; k < 20; k++) {
                Checks.due("word(" + k + ")", mill.word(k), want.shiftRight(32 * k).intValue());
            }
        }
        DigitMill afterZero = new DigitMill();
        afterZero.push(0);
        Checks.due("bits() after push(0)", afterZero.bits(), 0);
        Checks.due("write(10) after push(0)", afterZero.write(10), 1);
    }

    private static BigInteger unsigned(long bits) {
        return new BigInteger(Long.toUnsignedString(bits));
    }

    private static void pushUpToTheLimit() {
        int[] bits = {65471, 65472, 65473, 65474, 65504, 65505, 65535, 65536};
        for (int n : bits) {
            boolean fits = n <= 65472;
            BigInteger old = BigInteger.ONE.shiftLeft(n - 1);
            BigInteger want = fits ? old.shiftLeft(64).add(BigInteger.TWO) : old;
            Checks.dueNumber("push to " + n + " bits", () -> {
                DigitMill mill = new DigitMill();
                mill.power(2, n - 1);
                Checks.due("push(2) to " + n + " bits", mill.push(2), fits);
                return mill;
            }, want);
        }
        DigitMill mill = new DigitMill();
        mill.power(2, 65535);
        mill.write(16);
        mill.type('7');
        Checks.due("push(0) to 2^65535", mill.push(0), false);
        Checks.due("typed() after it", mill.typed(), 1);
        Checks.due("characterAt(0) after it", mill.characterAt(0), '8');
        Checks.due("push(-1) to 2^65535", mill.push(-1), false);
        Checks.due("word(0) after it", mill.word(0), 0);
        Checks.due("word(2047) after it", mill.word(2047), 1 << 31);
        DigitMill zeros = new DigitMill();
        for (int k = 0; k < 500; k++) {
            Checks.due("push(0) to 0", zeros.push(0), true);
        }
        Checks.due("bits() of pushed zeros", zeros.bits(), 0);
    }

    private static void powerOrdinary() {
        int[] bases = {0, 1, 2, 3, 7, 10, 36, 255, 256, 46340, 46341, 65535, 65536, 65537, 1 << 30,
            Integer.MAX_VALUE - 1, Integer.MAX_VALUE};
        int[] exponents = {0, 1, 2, 3, 4, 5, 7, 8, 15, 16, 17, 31, 32, 33, 63, 64, 100, 127, 255, 1000};
        for (int b : bases) {
            for (int e : exponents) {
                Checks.dueNumber("power(" + b + ", " + e + ")", () -> {
                    DigitMill mill = new DigitMill();
                    mill.push(-1);
                    Checks.due("power(" + b + ", " + e + ")", mill.power(b, e), true);
                    return mill;
                }, BigInteger.valueOf(b).pow(e));
            }
        }
        int[] greatExponents = {65535, 65536, 65537, 1 << 30, Integer.MAX_VALUE};
        for (int e : greatExponents) {
            DigitMill mill = new DigitMill();
            Checks.due("power(1, " + e + ")", mill.power(1, e), true);
            Checks.due("bits() of 1", mill.bits(), 1);
            Checks.due("power(0, " + e + ")", mill.power(0, e), true);
            Checks.due("bits() of 0", mill.bits(), 0);
            Checks.due("write(10) of 0", mill.write(10), 1);
        }
    }

    /** The greatest exponent that a base has, and the next one. */
    private static void powerAtTheLimit() {
        int[] bases = {2, 3, 4, 5, 6, 10, 15, 16, 17, 36, 255, 256, 257, 1000, 46341, 65535, 65536, 65537, 1000000007,
            1 << 30, (1 << 30) - 1, Integer.MAX_VALUE};
        for (int b : bases) {
            int e = greatestExponent(b);
            BigInteger want = BigInteger.valueOf(b).pow(e);
            Checks.dueNumber("power(" + b + ", " + e + ")", () -> {
                DigitMill mill = new DigitMill();
                Checks.due("power(" + b + ", " + e + ")", mill.power(b, e), true);
                Checks.due("power(" + b + ", " + (e + 1) + ")", mill.power(b, e + 1), false);
                return mill;
            }, want);
        }
    }

    private static int greatestExponent(int b) {
        BigInteger base = BigInteger.valueOf(b);
        int e = (int) (65536 / (Math.log(b) / Math.log(2))) + 2;
        while (base.pow(e).bitLength() > 65536) {
            e--;
        }
        return e;
    }

    private static void powerRefused() {
        int[][] wrong = {{-1, 0}, {-1, 1}, {-1, 2}, {0, -1}, {1, -1}, {2, -1}, {-2, 3}, {Integer.MIN_VALUE, 1},
            {1, Integer.MIN_VALUE}, {-1, -1}, {2, 65536}, {2, 65537}, {2, 131072}, {2, 131071}, {2, Integer.MAX_VALUE},
            {3, 65536}, {Integer.MAX_VALUE, Integer.MAX_VALUE}, {4, 32768}, {16, 16384}, {256, 8192}, {65536, 4096},
            {Integer.MAX_VALUE, 2200}, {10, 19729}};
        for (int[] w : wrong) {
            String call = "power(" + w[0] + ", " + w[1] + ")";
            Checks.dueNumber("after " + call, () -> {
                DigitMill mill = Checks.typed("12");
                mill.push(77);
                mill.push(88);
                mill.write(10);
                int length = mill.characterAt(21);
                Checks.due(call, mill.power(w[0], w[1]), false);
                Checks.due("typed() after it", mill.typed(), 2);
                Checks.due("characterAt(0) after it", mill.characterAt(0), '1');
                Checks.due("characterAt(21) after it", mill.characterAt(21), length);
                return mill;
            }, BigInteger.valueOf(77).shiftLeft(64).add(BigInteger.valueOf(88)));
        }
    }

    private static void addOrdinary() {
        int[] steps = {0, 1, -1, 0, 5, -3, Integer.MAX_VALUE, Integer.MAX_VALUE, 1, 1, 1, Integer.MIN_VALUE,
            Integer.MIN_VALUE + 1, 77, -80};
        BigInteger want = BigInteger.ZERO;
        DigitMill mill = new DigitMill();
        for (int v : steps) {
            want = want.add(BigInteger.valueOf(v));
            Checks.due("add(" + v + ")", mill.add(v), true);
            Checks.due("bits()", mill.bits(), want.bitLength());
            Checks.due("word(0)", mill.word(0), want.intValue());
            Checks.due("word(1)", mill.word(1), want.shiftRight(32).intValue());
        }
    }

    /** A carry and a borrow through all words, and the number of words going up and down. */
    private static void addAtTheEdges() {
        int[] bits = {31, 32, 33, 63, 64, 65, 96, 1000, 1024, 32768, 65504, 65535};
        int[] steps = {1, 2, Integer.MAX_VALUE};
        for (int n : bits) {
            for (int v : steps) {
                BigInteger power = BigInteger.ONE.shiftLeft(n);
                Checks.dueNumber("2^" + n + " - " + v, () -> {
                    DigitMill mill = new DigitMill();
                    mill.power(2, n);
                    Checks.due("add(-" + v + ")", mill.add(-v), true);
                    return mill;
                }, power.subtract(BigInteger.valueOf(v)));
                Checks.dueNumber("2^" + n + " - 1 + " + v, () -> {
                    DigitMill mill = new DigitMill();
                    mill.power(2, n);
                    mill.add(-1);
                    Checks.due("add(" + v + ")", mill.add(v), true);
                    return mill;
                }, power.subtract(BigInteger.ONE).add(BigInteger.valueOf(v)));
            }
        }
        Checks.dueNumber("2^33 - 2^31", () -> {
            DigitMill mill = new DigitMill();
            mill.power(2, 33);
            Checks.due("add(MIN_VALUE)", mill.add(Integer.MIN_VALUE), true);
            return mill;
        }, BigInteger.valueOf(3L << 31));
        DigitMill toZero = new DigitMill();
        toZero.power(2, 31);
        Checks.due("add(MIN_VALUE) to 2^31", toZero.add(Integer.MIN_VALUE), true);
        Checks.due("bits()", toZero.bits(), 0);
    }

    private static void addRefused() {
        long[][] below = {{0, -1}, {0, Integer.MIN_VALUE}, {1, -2}, {5, -6}, {5, Integer.MIN_VALUE},
            {Integer.MAX_VALUE, Integer.MIN_VALUE}};
        for (long[] b : below) {
            DigitMill mill = new DigitMill();
            mill.push(b[0]);
            mill.write(10);
            mill.type('7');
            Checks.due("add(" + b[1] + ") to " + b[0], mill.add((int) b[1]), false);
            Checks.due("word(0) after it", mill.word(0), (int) b[0]);
            Checks.due("word(1) after it", mill.word(1), 0);
            Checks.due("bits() after it", mill.bits(), 64 - Long.numberOfLeadingZeros(b[0]));
            Checks.due("typed() after it", mill.typed(), 1);
            Checks.due("characterAt(0) after it", mill.characterAt(0), Long.toString(b[0]).charAt(0));
        }
        int[] under = {0, 1, 2, 1000, Integer.MAX_VALUE - 1};
        int[] steps = {1, 2, 3, 1000, 1001, Integer.MAX_VALUE - 1, Integer.MAX_VALUE};
        for (int less : under) {
            for (int v : steps) {
                boolean fits = v <= less;
                BigInteger old = Checks.TOP.subtract(BigInteger.valueOf(less));
                Checks.dueNumber("2^65536 - 1 - " + less + " + " + v, () -> {
                    DigitMill mill = Checks.holdingTop();
                    Checks.due("add(-" + less + ")", mill.add(-less), true);
                    Checks.due("add(" + v + ")", mill.add(v), fits);
                    return mill;
                }, fits ? old.add(BigInteger.valueOf(v)) : old);
            }
        }
    }

    /** Not all ones above the lowest word: the carry finds room. */
    private static void addWhereAZeroTakesTheCarry() {
        int[] places = {32, 33, 63, 64, 65, 95, 96, 1000, 32768, 65503, 65504, 65534};
        for (int place : places) {
            Checks.dueNumber("ones but for bit " + place, () -> {
                DigitMill mill = Checks.typed("1");
                mill.repeat(1, 65534 - place);
                Checks.typeAll(mill, "01");
                mill.repeat(1, place - 1);
                Checks.due("read(2)", mill.read(2), -1);
                Checks.due("add(MAX_VALUE)", mill.add(Integer.MAX_VALUE), true);
                return mill;
            }, Checks.TOP.clearBit(place).add(BigInteger.valueOf(Integer.MAX_VALUE)));
        }
    }

    private static void wordAndBits() {
        DigitMill mill = Checks.holdingTop();
        int[] inside = {0, 1, 1000, 2047};
        int[] outside = {-1, -2, 2048, 2049, Integer.MAX_VALUE, Integer.MIN_VALUE};
        for (int k : inside) {
            Checks.due("word(" + k + ")", mill.word(k), -1);
        }
        for (int k : outside) {
            Checks.due("word(" + k + ")", mill.word(k), 0);
        }
        Checks.due("bits()", mill.bits(), 65536);
        // A number of fewer words after one of more: nothing of the old one shows.
        mill.power(3, 2);
        Checks.due("bits() of 9", mill.bits(), 4);
        Checks.due("word(0) of 9", mill.word(0), 9);
        Checks.due("word(1) of 9", mill.word(1), 0);
        Checks.due("word(2047) of 9", mill.word(2047), 0);
        DigitMill powers = new DigitMill();
        for (int e = 0; e < 120; e++) {
            powers.power(2, e);
            Checks.due("bits() of 2^" + e, powers.bits(), e + 1);
            powers.add(-1);
            Checks.due("bits() of 2^" + e + " - 1", powers.bits(), e);
        }
    }
}
