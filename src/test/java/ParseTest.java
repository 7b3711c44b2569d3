import java.math.BigInteger;

/** Promises 10 and 11. */
public final class ParseTest {
    private static final int[] WIDTHS = {32, 64};

    public static void main(String[] args) {
        theEdgesOfEachWidth();
        theEdgesInWords();
        aroundThePowersOfTheRadix();
        mayBeginWithASign();
        atLeastOneDigit();
        nothingButDigits();
        theDigitsOfARadix();
        longTexts();
        noDigitInANumberTooWide();
        theTextInIsEmptyThen();
        theValueStays();
        theValueAtFirst();
        widthNeither32Nor64();
        radixNot2To36();
        ofEveryState();
        Checks.finish("ParseTest");
    }

    private static String call(int width, int radix, boolean signs) {
        return "parse(" + width + ", " + radix + ", " + signs + ")";
    }

    private static void parses(Home home, int width, int radix, boolean signs, long value) {
        home.becomes(call(width, radix, signs), mill -> mill.parse(width, radix, signs), 0,
            home.state.withIn("").withValue(value));
    }

    /** 'The VALUE stays in these cases'; the TEXT IN is empty then too. */
    private static void isNone(Home home, int width, int radix, boolean signs, int answer) {
        home.becomes(call(width, radix, signs), mill -> mill.parse(width, radix, signs), answer, home.state.withIn(""));
    }

    private static void parses(String text, int width, int radix, boolean signs, long value) {
        parses(Home.SMALL.typing(text), width, radix, signs, value);
    }

    private static void isNone(String text, int width, int radix, boolean signs, int answer) {
        isNone(Home.SMALL.typing(text), width, radix, signs, answer);
    }

    /** Answers 0 or 2 by the bounds of the width, told with other numbers than the class has. */
    private static void parsesIfOfWidth(BigInteger number, String text, int width, int radix, boolean signs) {
        BigInteger all = BigInteger.ONE.shiftLeft(width);
        BigInteger lowest = signs ? all.shiftRight(1).negate() : BigInteger.ZERO;
        BigInteger beyond = lowest.add(all);
        if (number.compareTo(lowest) >= 0 && number.compareTo(beyond) < 0) {
            parses(text, width, radix, signs, number.longValue());
        } else {
            isNone(text, width, radix, signs, 2);
        }
    }

    /** '2 when the number is not one of this width (with signs, or without)': on both sides of each edge, in every radix */
    private static void theEdgesOfEachWidth() {
        int[] bits = {31, 32, 33, 63, 64, 65, 95, 96, 128, 200};
        int[] steps = {-2, -1, 0, 1};
        for (int radix = 2; radix <= 36; radix++) {
            for (int n : bits) {
                for (int step : steps) {
                    BigInteger number = BigInteger.ONE.shiftLeft(n).add(BigInteger.valueOf(step));
                    parsesInEachWay(number, radix);
                    parsesWithMinus(number, radix);
                }
            }
            parsesInEachWay(BigInteger.ZERO, radix);
            parsesWithMinus(BigInteger.ZERO, radix);
            parsesWithMinus(BigInteger.ONE, radix);
        }
    }

    private static void parsesInEachWay(BigInteger number, int radix) {
        String digits = number.toString(radix);
        for (int width : WIDTHS) {
            parsesIfOfWidth(number, digits, width, radix, true);
            parsesIfOfWidth(number, "+" + digits.toUpperCase(), width, radix, true);
            parsesIfOfWidth(number, "00" + digits, width, radix, false);
            parsesIfOfWidth(number, "+0" + digits.toUpperCase(), width, radix, false);
        }
    }

    private static void parsesWithMinus(BigInteger number, int radix) {
        String digits = number.toString(radix);
        for (int width : WIDTHS) {
            parsesIfOfWidth(number.negate(), "-" + digits, width, radix, true);
            parsesIfOfWidth(number.negate(), "-0" + digits.toUpperCase(), width, radix, true);
            isNone("-" + digits, width, radix, false, 1);
        }
    }

    /** Promise 11: 'of 32 bits with signs as it is, without signs 0 .. 2^32 - 1; of 64 bits without signs its bits' */
    private static void theEdgesInWords() {
        parses("2147483647", 32, 10, true, 2147483647L);
        isNone("2147483648", 32, 10, true, 2);
        parses("-2147483648", 32, 10, true, -2147483648L);
        isNone("-2147483649", 32, 10, true, 2);
        parses("2147483648", 32, 10, false, 2147483648L);
        parses("4294967295", 32, 10, false, 4294967295L);
        isNone("4294967296", 32, 10, false, 2);
        isNone("4294967297", 32, 10, false, 2);
        isNone("-4294967295", 32, 10, true, 2);
        isNone("-4294967296", 32, 10, true, 2);
        parses("9223372036854775807", 64, 10, true, Long.MAX_VALUE);
        isNone("9223372036854775808", 64, 10, true, 2);
        parses("-9223372036854775808", 64, 10, true, Long.MIN_VALUE);
        isNone("-9223372036854775809", 64, 10, true, 2);
        parses("9223372036854775808", 64, 10, false, Long.MIN_VALUE);
        parses("18446744073709551615", 64, 10, false, -1L);
        isNone("18446744073709551616", 64, 10, false, 2);
        isNone("18446744073709551617", 64, 10, false, 2);
        isNone("18446744073709551617", 64, 10, true, 2);
        isNone("-18446744073709551615", 64, 10, true, 2);
        isNone("-18446744073709551616", 64, 10, true, 2);
        isNone("-9223372036854775808", 32, 10, true, 2);
        isNone("36893488147419103232", 64, 10, false, 2);
        isNone("340282366920938463463374607431768211457", 64, 10, false, 2);
    }

    private static void aroundThePowersOfTheRadix() {
        for (int radix = 2; radix <= 36; radix++) {
            BigInteger power = BigInteger.ONE;
            for (int e = 0; e <= 70; e++) {
                parsesInEachWay(power, radix);
                parsesInEachWay(power.subtract(BigInteger.ONE), radix);
                power = power.multiply(BigInteger.valueOf(radix));
            }
        }
    }

    /** 'It may begin with "+", with signs also with "-"' */
    private static void mayBeginWithASign() {
        for (int width : WIDTHS) {
            parses("5", width, 10, true, 5);
            parses("5", width, 10, false, 5);
            parses("+5", width, 10, true, 5);
            parses("+5", width, 10, false, 5);
            parses("-5", width, 10, true, -5);
            isNone("-5", width, 10, false, 1);
            parses("+0", width, 10, true, 0);
            parses("+0", width, 10, false, 0);
            parses("-0", width, 10, true, 0);
            isNone("-0", width, 10, false, 1);
            parses("-zZ", width, 36, true, -1295);
            parses("+1", width, 2, false, 1);
            String[] twice = {"++5", "--5", "+-5", "-+5", "5+", "5-", "5+5", "5-5", "+5-", "-5-", "-5+", "+5+"};
            for (String text : twice) {
                isNone(text, width, 10, true, 1);
                isNone(text, width, 10, false, 1);
            }
        }
    }

    /** 'at least one digit comes' */
    private static void atLeastOneDigit() {
        String[] texts = {"", "+", "-"};
        for (int width : WIDTHS) {
            for (int radix = 2; radix <= 36; radix++) {
                for (String text : texts) {
                    isNone(text, width, radix, true, 1);
                    isNone(text, width, radix, false, 1);
                }
                parses("1", width, radix, true, 1);
                parses("+1", width, radix, false, 1);
                parses("-1", width, radix, true, -1);
            }
        }
        isNone(Home.FRESH, 32, 10, true, 1);
        isNone(Home.FRESH, 64, 10, false, 1);
    }

    /** 'and nothing but digits. 1 when it is not so': in each place */
    private static void nothingButDigits() {
        String[] others = {"a", "A", "z", " ", ".", ",", "_", "/", ":", "~", "\u0001", "+", "-"};
        for (String other : others) {
            for (int place = 1; place <= 12; place++) {
                String text = "123456789012".substring(0, place) + other + "123456789012".substring(place);
                isNone(text, 64, 10, true, 1);
                isNone(text, 64, 10, false, 1);
                isNone("+" + text, 32, 10, false, 1);
                isNone("-" + text, 32, 10, true, 1);
            }
        }
        String[] first = {" 1", "x1", "/1", ":1", ",1", ".1", "~1", "*1", "\u00011"};
        for (String text : first) {
            isNone(text, 32, 10, true, 1);
            isNone(text, 64, 10, false, 1);
        }
    }

    /** The DIGITS of the Terms, each code in each radix, behind a digit and alone. */
    private static void theDigitsOfARadix() {
        for (int radix = 2; radix <= 36; radix++) {
            for (int code = 1; code <= 126; code++) {
                int digit = Checks.DIGITS.indexOf(Character.toLowerCase((char) code));
                boolean good = digit >= 0 && digit < radix;
                String line = call(32, radix, true) + " of code " + code;
                DigitMill alone = Checks.typed("" + (char) code);
                Checks.due(line, alone.parse(32, radix, true), good ? 0 : 1);
                Checks.due(line + ": value()", alone.value(), good ? digit : 0);
                DigitMill behind = Checks.typed("-1" + (char) code);
                Checks.due(line + " behind -1", behind.parse(32, radix, true), good ? 0 : 1);
                Checks.due(line + " behind -1: value()", behind.value(), good ? -radix - digit : 0);
            }
        }
    }

    /** As long as the TEXT IN can be: zeros in front are free, and many digits are only too wide. */
    private static void longTexts() {
        String[][] texts = {{"-0", "1234", "-1234"}, {"+0", "1234", "1234"}, {"0", "2147483647", "2147483647"},
            {"-0", "2147483648", "-2147483648"}};
        for (String[] t : texts) {
            DigitMill mill = Checks.typed(t[0]);
            mill.repeat(1, 65536 - t[0].length() - t[1].length());
            Checks.typeAll(mill, t[1]);
            Checks.due("typed()", mill.typed(), 65536);
            Checks.due("parse of " + t[1] + " with zeros in front", mill.parse(32, 10, true), 0);
            Checks.due("value() of it", mill.value(), Long.parseLong(t[2]));
            Checks.due("typed() after it", mill.typed(), 0);
        }
        for (int width : WIDTHS) {
            for (int radix = 2; radix <= 36; radix++) {
                String highest = String.valueOf(Checks.DIGITS.charAt(radix - 1));
                isNone(Home.typed(highest, 1, 65535), width, radix, false, 2);
                isNone(Home.typed("-" + highest, 1, 65534), width, radix, true, 2);
                isNone(Home.typed("10", 1, 65534), width, radix, false, 2);
            }
        }
    }

    /** 1 comes before 2: 'nothing but digits. 1 when it is not so', however wide the digits are */
    private static void noDigitInANumberTooWide() {
        for (int width : WIDTHS) {
            isNone("99999999999999999999999999x", width, 10, true, 1);
            isNone("-99999999999999999999999999-", width, 10, true, 1);
            isNone("-99999999999999999999999999", width, 10, false, 1);
            DigitMill mill = Checks.typed("9");
            mill.repeat(1, 65534);
            mill.type('-');
            Checks.due(call(width, 10, true) + " of 65535 nines and -", mill.parse(width, 10, true), 1);
            Checks.due("value() after it", mill.value(), 0);
            Checks.due("typed() after it", mill.typed(), 0);
        }
    }

    /** 'the TEXT IN is empty then (but for 3)': a second call finds nothing, and what is typed begins anew */
    private static void theTextInIsEmptyThen() {
        String[] texts = {"12", "-", "1x", "99999999999", ""};
        for (String text : texts) {
            DigitMill mill = Checks.typed(text);
            mill.parse(32, 10, true);
            Checks.due("typed() after parse of " + text, mill.typed(), 0);
            Checks.due("a second parse", mill.parse(32, 10, true), 1);
            Checks.due("repeat(1, 0)", mill.repeat(1, 0), false);
            mill.type('5');
            Checks.due("a third parse", mill.parse(32, 10, true), 0);
            Checks.due("value() after it", mill.value(), 5);
        }
    }

    /** 'The VALUE stays in these cases', whatever it is: the latest good one, until the next good one */
    private static void theValueStays() {
        long[] values = {0, 1, -1, Long.MAX_VALUE, Long.MIN_VALUE};
        for (long value : values) {
            DigitMill mill = Checks.typed(Long.toString(value));
            Checks.due("parse of " + value, mill.parse(64, 10, true), 0);
            Checks.due("value()", mill.value(), value);
            Checks.due("parse of nothing", mill.parse(64, 10, true), 1);
            Checks.due("value() after 1", mill.value(), value);
            Checks.typeAll(mill, "9223372036854775808");
            Checks.due("parse of one too great", mill.parse(64, 10, true), 2);
            Checks.due("value() after 2", mill.value(), value);
            Checks.typeAll(mill, "7");
            Checks.due("parse with no width", mill.parse(16, 10, true), 3);
            Checks.due("value() after 3", mill.value(), value);
            Checks.due("parse of 7", mill.parse(64, 10, true), 0);
            Checks.due("value() of it", mill.value(), 7);
        }
    }

    /** Promise 11: 'The VALUE, 0 at first'; no other call changes it. */
    private static void theValueAtFirst() {
        DigitMill mill = new DigitMill();
        Checks.due("new: value()", mill.value(), 0);
        Checks.typeAll(mill, "77");
        mill.repeat(1, 1);
        mill.read(10);
        mill.write(10);
        mill.push(5);
        mill.power(3, 3);
        mill.add(3);
        mill.show(99, 64, 10, true);
        Checks.due("value() after other calls", mill.value(), 0);
        Checks.due("value() again", mill.value(), 0);
    }

    private static void refuses(Home home, int width, int radix) {
        home.refuses(call(width, radix, true), mill -> mill.parse(width, radix, true), 3);
        home.refuses(call(width, radix, false), mill -> mill.parse(width, radix, false), 3);
    }

    /** '3 when width is neither 32 nor 64 .. (refused)', whatever the TEXT IN is */
    private static void widthNeither32Nor64() {
        WidthAndRadix.eachWrongWidth(ParseTest::refuses);
    }

    /** '3 when .. the radix is not 2 .. 36 (refused)', whatever the TEXT IN is */
    private static void radixNot2To36() {
        WidthAndRadix.eachWrongRadix(ParseTest::refuses);
        for (int width : WIDTHS) {
            parses("101", width, 2, false, 5);
            parses("12", width, 3, false, 5);
            parses("yY", width, 35, true, 1224);
            parses("zZ", width, 36, true, 1295);
        }
    }

    /** The NUMBER and the TEXT OUT stay. */
    private static void ofEveryState() {
        parses(Home.SMALL, 32, 10, true, 12);
        parses(Home.MIDDLE, 64, 36, true, 35 * 36 * 36 + 35 * 36 + 9);
        isNone(Home.MIDDLE, 64, 35, true, 1);
        isNone(Home.FULL, 64, 2, false, 2);
        parses(Home.FULL.typing("-1"), 32, 10, true, -1);
        isNone(Home.FULL.typing("-1"), 32, 10, false, 1);
        parses(Home.FULL.typing("18446744073709551615"), 64, 10, false, -1);
    }
}
