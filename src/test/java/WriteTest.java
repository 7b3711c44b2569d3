import java.math.BigInteger;

/** Promise 5. */
public final class WriteTest {
    public static void main(String[] args) {
        zero();
        aroundThePowersOfTheRadix();
        zerosInside();
        ofEveryState();
        theGreatest();
        theLongest();
        aShorterTextAfterALongerOne();
        radixNot2To36();
        Checks.finish("WriteTest");
    }

    private static String call(int radix) {
        return "write(" + radix + ")";
    }

    private static Home writes(Home home, int radix) {
        String text = home.state.number().toString(radix);
        return home.becomes(call(radix), mill -> mill.write(radix), text.length(), home.state.withOut(text));
    }

    /** '(0: "0")', in every radix, for a 0 that was always there and for one that came of a call */
    private static void zero() {
        State zero = Home.FULL.state.withNumber(0);
        Home[] homes = {Home.FRESH, Home.SMALL.then("add(-42)", mill -> mill.add(-42) ? 1 : 0, 1, Home.SMALL.state.withNumber(0)),
            Home.MIDDLE.then("power(0, 1)", mill -> mill.power(0, 1) ? 1 : 0, 1, Home.MIDDLE.state.withNumber(0))};
        for (int radix = 2; radix <= 36; radix++) {
            int r = radix;
            for (Home home : homes) {
                home.becomes(call(r), mill -> mill.write(r), 1, home.state.withOut("0"));
            }
        }
        writes(Home.FULL.then("power(0, 9)", mill -> mill.power(0, 9) ? 1 : 0, 1, zero), 10);
        writes(Home.SMALL.typing("000").then("read(10)", mill -> mill.read(10), -1,
            Home.SMALL.state.withIn("").withNumber(0)), 10);
    }

    /** 'without zeros in front': a digit more or less, at each count of digits, is seen on both sides of a power */
    private static void aroundThePowersOfTheRadix() {
        for (int radix = 2; radix <= 36; radix++) {
            BigInteger power = BigInteger.ONE;
            for (int e = 0; e <= 130; e++) {
                writesNumber(power.subtract(BigInteger.ONE), radix);
                writesNumber(power, radix);
                writesNumber(power.add(BigInteger.ONE), radix);
                power = power.multiply(BigInteger.valueOf(radix));
            }
        }
    }

    private static void writesNumber(BigInteger number, int radix) {
        DigitMill mill = Checks.pushAll(new DigitMill(), number);
        String text = number.toString(radix);
        String line = call(radix) + " of " + text;
        Checks.due(line, mill.write(radix), text.length());
        Checks.dueTextHereAndThere(line, mill, text);
        Checks.due(line + ": bits()", mill.bits(), number.bitLength());
        Checks.due(line + ": word(0)", mill.word(0), number.intValue());
    }

    /** Zeros among the digits, a few and many, are not left out. */
    private static void zerosInside() {
        int[] exponents = {5, 13, 14, 29, 60, 61, 62, 400, 5000, 12600};
        for (int radix = 2; radix <= 36; radix++) {
            for (int e : exponents) {
                int r = radix;
                String text = "1" + "0".repeat(e - 1) + "1";
                Checks.dueText(call(r) + " of a power and 1", () -> {
                    DigitMill mill = new DigitMill();
                    mill.power(r, e);
                    mill.add(1);
                    Checks.due(call(r) + " of a power and 1", mill.write(r), text.length());
                    return mill;
                }, text);
            }
        }
    }

    /** 'The TEXT OUT becomes the NUMBER's digits in a radix, small letters', and nothing else changes */
    private static void ofEveryState() {
        for (Home home : Home.ALL) {
            for (int radix = 2; radix <= 36; radix += home == Home.FULL ? 17 : 1) {
                writes(home, radix);
            }
        }
    }

    private static void theGreatest() {
        for (int radix = 2; radix <= 36; radix++) {
            int r = radix;
            String text = Checks.TOP.toString(radix);
            Checks.dueText(call(r) + " of the greatest", () -> {
                DigitMill mill = Checks.holdingTop();
                Checks.due(call(r) + " of the greatest", mill.write(r), text.length());
                return mill;
            }, text);
        }
    }

    /** In radix 2 a digit is a bit: 65,535 of them, and 65,536, as many as the TEXT OUT ever has. */
    private static void theLongest() {
        int[] exponents = {65533, 65534, 65535};
        for (int e : exponents) {
            Home power = writes(Home.holdingPowerOfTwo(e), 2);
            Checks.due("so many digits", power.state.out().length(), e + 1);
            BigInteger below = power.state.number().subtract(BigInteger.ONE);
            writes(power.then("add(-1)", mill -> mill.add(-1) ? 1 : 0, 1, power.state.withNumber(below)), 2);
        }
    }

    /** 'THE TEXT OUT is what was written latest': nothing of a longer text is left */
    private static void aShorterTextAfterALongerOne() {
        Home written = writes(writes(writes(Home.MIDDLE, 2), 36), 2);
        State one = written.state.withNumber(1);
        writes(written.then("power(1, 1)", mill -> mill.power(1, 1) ? 1 : 0, 1, one), 2);
        Home full = Home.FULL.then("power(7, 2)", mill -> mill.power(7, 2) ? 1 : 0, 1, Home.FULL.state.withNumber(49));
        writes(full, 10);
    }

    /** '-1, refused, when the radix is not 2 .. 36' */
    private static void radixNot2To36() {
        for (int radix : Checks.NO_RADIXES) {
            for (Home home : Home.ALL) {
                home.refuses(call(radix), mill -> mill.write(radix), -1);
            }
        }
        int[] lowestAndHighest = {2, 3, 35, 36};
        for (int radix : lowestAndHighest) {
            writes(Home.SMALL, radix);
        }
    }
}
