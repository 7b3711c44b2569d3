/** Promise 9. */
public final class ShowTest {
    private static final long[] NUMBERS = {0, 1, -1, 2, -2, 35, 36, -35, -36, 1000000000, 0x7ffffffeL, 0x7fffffffL, 0x80000000L,
        0x80000001L, 0xfffffffeL, 0xffffffffL, 0x100000000L, 0x100000001L, 0x17fffffffL, 0x180000000L, -0x7fffffffL,
        -0x80000000L, -0x80000001L, -0xffffffffL, -0x100000000L, -0x100000001L, Long.MAX_VALUE, Long.MAX_VALUE - 1,
        Long.MIN_VALUE, Long.MIN_VALUE + 1, 0x123456789abcdef0L, 0xfedcba9876543210L};

    public static void main(String[] args) {
        inEveryRadix();
        aroundThePowersOfTheRadix();
        theEdgesOf32Bits();
        theEdgesOf64Bits();
        theLowest32BitsAlone();
        zero();
        aShorterTextAfterALongerOne();
        widthNeither32Nor64();
        radixNot2To36();
        Checks.finish("ShowTest");
    }

    private static String call(long v, int width, int radix, boolean signs) {
        return "show(" + v + ", " + width + ", " + radix + ", " + signs + ")";
    }

    private static Home shows(Home home, long v, int width, int radix, boolean signs, String text) {
        return home.becomes(call(v, width, radix, signs), mill -> mill.show(v, width, radix, signs), text.length(),
            home.state.withOut(text));
    }

    private static void showsAll(Home home, long v, int radix) {
        shows(home, v, 32, radix, true, Integer.toString((int) v, radix));
        shows(home, v, 32, radix, false, Integer.toUnsignedString((int) v, radix));
        shows(home, v, 64, radix, true, Long.toString(v, radix));
        shows(home, v, 64, radix, false, Long.toUnsignedString(v, radix));
    }

    /** 'The TEXT OUT becomes v's digits in a radix, "-" before them for one below 0: how many characters it has' */
    private static void inEveryRadix() {
        for (long v : NUMBERS) {
            for (int radix = 2; radix <= 36; radix++) {
                showsAll(Home.SMALL, v, radix);
            }
        }
        for (Home home : Home.ALL) {
            showsAll(home, -42, 10);
        }
    }

    /** A digit more or less is seen on both sides of a power. */
    private static void aroundThePowersOfTheRadix() {
        for (int radix = 2; radix <= 36; radix++) {
            for (long power = 1; power <= Long.MAX_VALUE / radix; power *= radix) {
                showsAll(Home.FRESH, power * radix - 1, radix);
                showsAll(Home.FRESH, power * radix, radix);
                showsAll(Home.FRESH, -power * radix, radix);
                showsAll(Home.FRESH, 1 - power * radix, radix);
            }
        }
    }

    /** 'with signs they are a number with its sign, as in Java, else one without' */
    private static void theEdgesOf32Bits() {
        Home home = Home.SMALL;
        shows(home, 0x7fffffffL, 32, 10, true, "2147483647");
        shows(home, 0x7fffffffL, 32, 10, false, "2147483647");
        shows(home, 0x80000000L, 32, 10, true, "-2147483648");
        shows(home, 0x80000000L, 32, 10, false, "2147483648");
        shows(home, 0x80000001L, 32, 10, true, "-2147483647");
        shows(home, 0xffffffffL, 32, 10, true, "-1");
        shows(home, 0xffffffffL, 32, 10, false, "4294967295");
        shows(home, 0x80000000L, 64, 10, true, "2147483648");
        shows(home, 0x80000000L, 32, 2, true, "-1" + "0".repeat(31));
        shows(home, 0xffffffffL, 32, 2, false, "1".repeat(32));
        shows(home, 0x80000000L, 32, 36, true, "-zik0zk");
    }

    private static void theEdgesOf64Bits() {
        Home home = Home.SMALL;
        shows(home, Long.MAX_VALUE, 64, 10, true, "9223372036854775807");
        shows(home, Long.MAX_VALUE, 64, 10, false, "9223372036854775807");
        shows(home, Long.MIN_VALUE, 64, 10, true, "-9223372036854775808");
        shows(home, Long.MIN_VALUE, 64, 10, false, "9223372036854775808");
        shows(home, Long.MIN_VALUE + 1, 64, 10, true, "-9223372036854775807");
        shows(home, -1, 64, 10, true, "-1");
        shows(home, -1, 64, 10, false, "18446744073709551615");
        shows(home, Long.MIN_VALUE, 64, 2, true, "-1" + "0".repeat(63));
        shows(home, -1, 64, 2, false, "1".repeat(64));
        shows(home, Long.MIN_VALUE, 64, 36, true, "-1y2p0ij32e8e8");
    }

    /** 'With 32 as its width v is the lowest 32 bits alone': what stands above them is nothing to it */
    private static void theLowest32BitsAlone() {
        int[] lowest = {0, 1, 5, Integer.MAX_VALUE, Integer.MIN_VALUE, -5, -1};
        long[] above = {0, 1, 0x7fffffffL, 0x80000000L, 0xffffffffL};
        for (int low : lowest) {
            for (long high : above) {
                long v = high << 32 | low & 0xffffffffL;
                shows(Home.SMALL, v, 32, 10, true, Integer.toString(low));
                shows(Home.SMALL, v, 32, 10, false, Integer.toUnsignedString(low));
                shows(Home.SMALL, v, 64, 10, true, Long.toString(v));
                shows(Home.SMALL, v, 64, 10, false, Long.toUnsignedString(v));
            }
        }
    }

    /** 0 has one digit, and no sign. */
    private static void zero() {
        for (int radix = 2; radix <= 36; radix++) {
            showsZero(Home.FRESH, 0, 32, radix);
            showsZero(Home.SMALL, 0, 64, radix);
            showsZero(Home.SMALL, 1L << 32, 32, radix);
            showsZero(Home.SMALL, Long.MIN_VALUE, 32, radix);
        }
        showsZero(Home.FULL, 0, 64, 10);
    }

    private static void showsZero(Home home, long v, int width, int radix) {
        shows(home, v, width, radix, true, "0");
        shows(home, v, width, radix, false, "0");
    }

    /** 'THE TEXT OUT is what was written latest': nothing of a longer text is left, whichever call wrote it */
    private static void aShorterTextAfterALongerOne() {
        Home longest = shows(Home.SMALL, Long.MIN_VALUE, 64, 2, true, "-1" + "0".repeat(63));
        Home shorter = shows(longest, -7, 64, 10, true, "-7");
        Home shortest = shows(shorter, 7, 32, 8, true, "7");
        shows(shortest, -1, 64, 16, false, "ffffffffffffffff");
        shows(Home.FULL, -1, 32, 10, true, "-1");
        shortest.becomes("write(10)", mill -> mill.write(10), 2, shortest.state.withOut("42"));
    }

    private static void refuses(Home home, int width, int radix) {
        home.refuses(call(-7, width, radix, true), mill -> mill.show(-7, width, radix, true), -1);
        home.refuses(call(-7, width, radix, false), mill -> mill.show(-7, width, radix, false), -1);
    }

    /** '-1, refused, when width is neither 32 nor 64' */
    private static void widthNeither32Nor64() {
        WidthAndRadix.eachWrongWidth(ShowTest::refuses);
    }

    /** 'or the radix is not 2 .. 36' */
    private static void radixNot2To36() {
        WidthAndRadix.eachWrongRadix(ShowTest::refuses);
        int[] lowestAndHighest = {2, 3, 35, 36};
        for (int radix : lowestAndHighest) {
            showsAll(Home.SMALL, -1234567, radix);
        }
    }
}
