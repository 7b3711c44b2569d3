import java.math.BigInteger;

/** Promise 8. */
public final class AddTest {
    private static final int[] STEPS = {0, 1, -1, 2, -2, 41, -41, -42, 43, 65535, 65536, -65536, Integer.MAX_VALUE - 1,
        Integer.MAX_VALUE, Integer.MIN_VALUE + 1, Integer.MIN_VALUE};

    public static void main(String[] args) {
        greaterAndLess();
        belowZero();
        aboveTheGreatest();
        carryThroughAllWords();
        carryThatStopsOnTheWay();
        borrowThroughAllWords();
        nothingMore();
        Checks.finish("AddTest");
    }

    private static String call(int v) {
        return "add(" + v + ")";
    }

    /** Adds, or is refused where the document says so. */
    private static void adds(Home home, int v) {
        BigInteger sum = home.state.number().add(BigInteger.valueOf(v));
        if (sum.signum() < 0 || sum.compareTo(Checks.TOP) > 0) {
            home.refuses(call(v), mill -> mill.add(v));
        } else {
            home.becomes(call(v), mill -> mill.add(v), home.state.withNumber(sum));
        }
    }

    /** 'The NUMBER becomes greater by v (less, if that is below 0)' */
    private static void greaterAndLess() {
        long[] numbers = {0, 1, 2, 41, 42, 43, 0xffffL, 0x10000L, 0x7fffffffL, 0x80000000L, 0xfffffffeL, 0xffffffffL,
            0x100000000L, 0x100000001L, 0x17fffffffL, 0x180000000L, 0x1ffffffffL, Long.MAX_VALUE};
        for (long number : numbers) {
            for (int v : STEPS) {
                adds(Home.holding(number), v);
            }
        }
        for (int v : STEPS) {
            adds(Home.MIDDLE, v);
        }
    }

    /** 'false, refused, when it would be below 0': one less than what there is, all of it, and one more */
    private static void belowZero() {
        int[] numbers = {0, 1, 2, 3, 42, 65535, 65536, Integer.MAX_VALUE - 2, Integer.MAX_VALUE - 1, Integer.MAX_VALUE};
        for (int number : numbers) {
            Home home = Home.holding(number);
            adds(home, -number);
            home.refuses(call(-number - 1), mill -> mill.add(-number - 1));
            home.refuses(call(Integer.MIN_VALUE), mill -> mill.add(Integer.MIN_VALUE));
            if (number > 0) {
                adds(home, -number + 1);
            }
        }
        long[] aroundTheLowestInt = {0x7fffffffL, 0x80000000L, 0x80000001L};
        for (long number : aroundTheLowestInt) {
            adds(Home.holding(number), Integer.MIN_VALUE);
            adds(Home.holding(number), Integer.MIN_VALUE + 1);
        }
        Home.FRESH.refuses(call(-1), mill -> mill.add(-1));
        Home.FRESH.refuses(call(Integer.MIN_VALUE), mill -> mill.add(Integer.MIN_VALUE));
    }

    /** 'or above 2^65536 - 1': up to it, and one more */
    private static void aboveTheGreatest() {
        int[] below = {0, 1, 2, 3, 1000, 65535, 65536, Integer.MAX_VALUE - 1, Integer.MAX_VALUE};
        for (int less : below) {
            Home home = less == 0 ? Home.FULL : Home.FULL.then(call(-less), mill -> mill.add(-less) ? 1 : 0, 1,
                Home.FULL.state.withNumber(Checks.TOP.subtract(BigInteger.valueOf(less))));
            adds(home, less);
            adds(home, Integer.MAX_VALUE);
            if (less > 0) {
                adds(home, less - 1);
            }
            if (less < Integer.MAX_VALUE) {
                home.refuses(call(less + 1), mill -> mill.add(less + 1));
            }
        }
        adds(Home.FULL, Integer.MIN_VALUE);
        adds(Home.FULL.then(call(Integer.MIN_VALUE), mill -> mill.add(Integer.MIN_VALUE) ? 1 : 0, 1,
            Home.FULL.state.withNumber(Checks.TOP.subtract(BigInteger.valueOf(1L << 31)))), Integer.MAX_VALUE);
    }

    /** 2^e - 1 and a little: the carry goes through all words, and makes a new one where there is room. */
    private static void carryThroughAllWords() {
        int[] exponents = {31, 32, 33, 63, 64, 65, 95, 96, 97, 128, 1000, 1024, 32768, 65472, 65503, 65504, 65505, 65535};
        for (int e : exponents) {
            Home power = Home.holdingPowerOfTwo(e);
            BigInteger less = power.state.number().subtract(BigInteger.ONE);
            Home ones = power.then(call(-1), mill -> mill.add(-1) ? 1 : 0, 1, power.state.withNumber(less));
            adds(ones, 1);
            adds(ones, 2);
            adds(ones, Integer.MAX_VALUE);
        }
    }

    /** 65,536 bits, all of them 1 but for one: the carry finds room there, and the sum is not above the greatest. */
    private static void carryThatStopsOnTheWay() {
        int[] places = {32, 33, 63, 64, 65, 95, 96, 1000, 32768, 65503, 65504, 65534};
        for (int place : places) {
            Home home = new Home("ones but for bit " + place, () -> {
                DigitMill mill = Checks.typed("1");
                mill.repeat(1, 65534 - place);
                Checks.typeAll(mill, "01");
                mill.repeat(1, place - 1);
                mill.read(2);
                return mill;
            }, State.NEW.withNumber(Checks.TOP.clearBit(place)));
            adds(home, 1);
            adds(home, Integer.MAX_VALUE);
        }
    }

    /** 2^e less a little: the borrow goes through all words, and the highest one may vanish. */
    private static void borrowThroughAllWords() {
        int[] exponents = {0, 1, 31, 32, 33, 63, 64, 65, 95, 96, 97, 1000, 1024, 32768, 65472, 65503, 65504, 65505, 65535};
        for (int e : exponents) {
            Home power = Home.holdingPowerOfTwo(e);
            adds(power, -1);
            adds(power, -2);
            adds(power, Integer.MIN_VALUE);
        }
    }

    /** By 0: nothing is below 0, nor above the greatest. */
    private static void nothingMore() {
        for (Home home : Home.ALL) {
            home.becomes(call(0), mill -> mill.add(0), home.state);
        }
    }
}
