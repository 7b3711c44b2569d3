import java.math.BigInteger;

/** Promise 7. */
public final class PowerTest {
    public static void main(String[] args) {
        smallPowers();
        greatBases();
        zeroToTheZero();
        powersOfZeroAndOne();
        theFirstPower();
        theGreatestPowerOfEachBase();
        theGreatestExponents();
        baseBelowZero();
        exponentBelowZero();
        whateverTheNumberWas();
        Checks.finish("PowerTest");
    }

    private static String call(int b, int e) {
        return "power(" + b + ", " + e + ")";
    }

    private static void becomes(Home home, int b, int e, BigInteger want) {
        home.becomes(call(b, e), mill -> mill.power(b, e), home.state.withNumber(want));
    }

    private static void becomes(Home home, int b, int e) {
        becomes(home, b, e, BigInteger.valueOf(b).pow(e));
    }

    private static void refuses(Home home, int b, int e) {
        home.refuses(call(b, e), mill -> mill.power(b, e));
    }

    /** 'The NUMBER becomes the e-th power of b' */
    private static void smallPowers() {
        for (int b = 0; b <= 40; b++) {
            for (int e = 0; e <= 40; e++) {
                becomes(Home.SMALL, b, e);
            }
        }
    }

    private static void greatBases() {
        int[] bases = {255, 256, 257, 32767, 32768, 46340, 46341, 65535, 65536, 65537, (1 << 30) - 1, 1 << 30, (1 << 30) + 1,
            Integer.MAX_VALUE - 1, Integer.MAX_VALUE};
        int[] exponents = {0, 1, 2, 3, 4, 5, 7, 8, 15, 16, 17, 31, 32, 33, 63, 64, 65, 100, 127, 128, 255, 1000};
        for (int b : bases) {
            for (int e : exponents) {
                becomes(Home.SMALL, b, e);
            }
        }
    }

    /** '(0 to the 0: 1)' */
    private static void zeroToTheZero() {
        for (Home home : Home.ALL) {
            becomes(home, 0, 0, BigInteger.ONE);
            becomes(home, 0, 1, BigInteger.ZERO);
            becomes(home, 1, 0, BigInteger.ONE);
            becomes(home, 1, 1, BigInteger.ONE);
        }
    }

    /** However great the exponent, 0 stays 0 and 1 stays 1. */
    private static void powersOfZeroAndOne() {
        int[] exponents = {1, 2, 3, 31, 32, 33, 65535, 65536, 65537, 1 << 20, 1 << 30, Integer.MAX_VALUE - 1, Integer.MAX_VALUE};
        for (int e : exponents) {
            becomes(Home.SMALL, 0, e, BigInteger.ZERO);
            becomes(Home.SMALL, 1, e, BigInteger.ONE);
        }
        becomes(Home.FULL, 0, Integer.MAX_VALUE, BigInteger.ZERO);
        becomes(Home.FULL, 1, Integer.MAX_VALUE, BigInteger.ONE);
    }

    /** The 0th and the first power, of the greatest base too. */
    private static void theFirstPower() {
        int[] bases = {2, 3, 10, 65535, 65536, 1 << 30, Integer.MAX_VALUE - 1, Integer.MAX_VALUE};
        for (int b : bases) {
            becomes(Home.MIDDLE, b, 0, BigInteger.ONE);
            becomes(Home.MIDDLE, b, 1, BigInteger.valueOf(b));
            becomes(Home.MIDDLE, b, 2, BigInteger.valueOf(b).multiply(BigInteger.valueOf(b)));
        }
    }

    /** 'false, refused, when .. it would be above 2^65536 - 1': the greatest exponent of a base, and the next one */
    private static void theGreatestPowerOfEachBase() {
        for (int b = 2; b <= 40; b++) {
            greatestPowerOf(b);
        }
        int[] bases = {255, 256, 257, 999, 1000, 32768, 46340, 46341, 65535, 65536, 65537, 1000000007, (1 << 30) - 1, 1 << 30,
            (1 << 30) + 1, Integer.MAX_VALUE - 1, Integer.MAX_VALUE};
        for (int b : bases) {
            greatestPowerOf(b);
        }
        becomes(Home.FRESH, 2, 65535, BigInteger.ONE.shiftLeft(65535));
        refuses(Home.FRESH, 2, 65536);
        becomes(Home.FRESH, 65536, 4095, BigInteger.ONE.shiftLeft(65520));
        refuses(Home.FRESH, 65536, 4096);
    }

    private static void greatestPowerOf(int b) {
        BigInteger base = BigInteger.valueOf(b);
        int e = (int) (65536 / (Math.log(b) / Math.log(2))) + 2;
        while (base.pow(e).compareTo(Checks.TOP) > 0) {
            e--;
        }
        becomes(Home.SMALL, b, e - 1);
        becomes(Home.SMALL, b, e);
        refuses(Home.SMALL, b, e + 1);
        refuses(Home.SMALL, b, e + 2);
    }

    /** Far above the greatest, where a count of bits would wrap around. */
    private static void theGreatestExponents() {
        int[] bases = {2, 3, 4, 16, 36, 65536, 1 << 30, Integer.MAX_VALUE};
        int[] exponents = {65536, 65537, 65538, 131071, 131072, 131073, 1 << 26, 1 << 27, 1 << 29, 1 << 30, (1 << 30) + 1,
            Integer.MAX_VALUE - 1, Integer.MAX_VALUE};
        for (int b : bases) {
            for (int e : exponents) {
                refuses(Home.SMALL, b, e);
            }
        }
        int[][] twoToThe65536 = {{4, 32768}, {16, 16384}, {256, 8192}, {65536, 4096}};
        for (int[] p : twoToThe65536) {
            refuses(Home.MIDDLE, p[0], p[1]);
        }
    }

    /** 'false, refused, when b or e is below 0': b, also where the power would not be */
    private static void baseBelowZero() {
        int[] bases = {-1, -2, -3, -65536, Integer.MIN_VALUE + 1, Integer.MIN_VALUE};
        int[] exponents = {0, 1, 2, 3, 4, 65535, Integer.MAX_VALUE, -1, Integer.MIN_VALUE};
        for (int b : bases) {
            for (int e : exponents) {
                refuses(Home.SMALL, b, e);
            }
        }
    }

    /** 'false, refused, when b or e is below 0': e, also of 0 and of 1 */
    private static void exponentBelowZero() {
        int[] bases = {0, 1, 2, 3, 10, Integer.MAX_VALUE};
        int[] exponents = {-1, -2, -65536, Integer.MIN_VALUE + 1, Integer.MIN_VALUE};
        for (int b : bases) {
            for (int e : exponents) {
                refuses(Home.SMALL, b, e);
            }
        }
    }

    private static void whateverTheNumberWas() {
        for (Home home : Home.ALL) {
            becomes(home, 10, 30);
            becomes(home, 3, 41348);
            refuses(home, 3, 41349);
            refuses(home, -1, 2);
            refuses(home, 2, -1);
        }
    }
}
