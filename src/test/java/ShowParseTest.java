import java.math.BigInteger;

/** Promises 9, 10 and 11. */
public final class ShowParseTest {
    private static final long[] NUMBERS = {0, 1, -1, 2, -2, 35, 36, -36, 1000000000, 0x7ffffffeL, 0x7fffffffL, 0x80000000L,
        0x80000001L, 0xfffffffeL, 0xffffffffL, 0x100000000L, 0x100000001L, -0x7fffffffL, -0x80000000L, -0x80000001L,
        -0xffffffffL, -0x100000000L, Long.MAX_VALUE, Long.MAX_VALUE - 1, Long.MIN_VALUE, Long.MIN_VALUE + 1,
        0x123456789abcdef0L, 0xfedcba9876543210L};

    public static void main(String[] args) {
        showAll();
        showRefused();
        parseAll();
        parseOfTheForm();
        parseNoNumber();
        parseAtTheEdges();
        parseOfLongTexts();
        parseRefused();
        Checks.finish("ShowParseTest");
    }

    private static void showAll() {
        for (long v : NUMBERS) {
            for (int radix = 2; radix <= 36; radix++) {
                dueShown(v, 32, radix, true, Integer.toString((int) v, radix));
                dueShown(v, 32, radix, false, Integer.toUnsignedString((int) v, radix));
                dueShown(v, 64, radix, true, Long.toString(v, radix));
                dueShown(v, 64, radix, false, Long.toUnsignedString(v, radix));
            }
        }
    }

    private static void dueShown(long v, int width, int radix, boolean signs, String want) {
        String call = "show(" + v + ", " + width + ", " + radix + ", " + signs + ")";
        DigitMill mill = Checks.typed("5");
        mill.push(99);
        mill.write(2);
        Checks.due(call, mill.show(v, width, radix, signs), want.length());
        for (int k = 0; k <= want.length(); k++) {
            Checks.due(call + ": characterAt(" + k + ")", mill.characterAt(k), k < want.length() ? want.charAt(k) : -1);
        }
        Checks.due(call + ": typed()", mill.typed(), 1);
        Checks.due(call + ": word(0)", mill.word(0), 99);
        Checks.due(call + ": value()", mill.value(), 0);
    }

    private static void showRefused() {
        int[][] wrong = {{33, 10}, {31, 10}, {0, 10}, {-32, 10}, {63, 10}, {65, 10}, {-64, 10}, {16, 10}, {128, 10},
            {Integer.MAX_VALUE, 10}, {Integer.MIN_VALUE, 10}, {32, 1}, {32, 0}, {32, -1}, {32, 37}, {64, 1}, {64, 0},
            {64, 37}, {64, -10}, {64, Integer.MAX_VALUE}, {32, Integer.MIN_VALUE}, {0, 0}, {33, 37}};
        for (int[] w : wrong) {
            for (int k = 0; k < 2; k++) {
                String call = "show(7, " + w[0] + ", " + w[1] + ")";
                DigitMill fresh = new DigitMill();
                Checks.due(call, fresh.show(7, w[0], w[1], k == 0), -1);
                Checks.due(call + ": characterAt(0) of a new object", fresh.characterAt(0), -1);
                DigitMill mill = holdingMuch();
                Checks.due(call, mill.show(7, w[0], w[1], k == 0), -1);
                dueMuch(call, mill);
            }
        }
    }

    /** NUMBER 42, TEXT OUT "-1z", VALUE 13, TEXT IN "12". */
    private static DigitMill holdingMuch() {
        DigitMill mill = Checks.typed("13");
        mill.parse(64, 10, true);
        mill.push(42);
        mill.show(-71, 32, 36, true);
        return Checks.typeAll(mill, "12");
    }

    private static void dueMuch(String call, DigitMill mill) {
        Checks.due(call + ": characterAt(0) after it", mill.characterAt(0), '-');
        Checks.due(call + ": characterAt(1) after it", mill.characterAt(1), '1');
        Checks.due(call + ": characterAt(2) after it", mill.characterAt(2), 'z');
        Checks.due(call + ": characterAt(3) after it", mill.characterAt(3), -1);
        Checks.due(call + ": word(0) after it", mill.word(0), 42);
        Checks.due(call + ": value() after it", mill.value(), 13);
        Checks.due(call + ": typed() after it", mill.typed(), 2);
        Checks.due(call + ": read(10) after it", mill.read(10), -1);
        Checks.due(call + ": word(0) after read", mill.word(0), 12);
    }

    private static void parseAll() {
        int[] widths = {32, 64};
        for (long v : NUMBERS) {
            for (int radix = 2; radix <= 36; radix++) {
                for (int width : widths) {
                    dueParsed(Long.toString(v, radix), width, radix, true);
                    dueParsed(Long.toString(v, radix).toUpperCase(), width, radix, false);
                    dueParsed(Long.toUnsignedString(v, radix), width, radix, true);
                    dueParsed("+" + Long.toUnsignedString(v, radix), width, radix, false);
                }
            }
        }
    }

    /** What a text of good digits, with or without a sign, must bring, by another way of counting. */
    private static void dueParsed(String text, int width, int radix, boolean signs) {
        BigInteger number = new BigInteger(text, radix);
        BigInteger lowest = signs ? BigInteger.ONE.shiftLeft(width - 1).negate() : BigInteger.ZERO;
        BigInteger beyond = BigInteger.ONE.shiftLeft(signs ? width - 1 : width);
        int want = number.compareTo(lowest) >= 0 && number.compareTo(beyond) < 0 ? 0 : 2;
        if (!signs && text.startsWith("-")) {
            want = 1;
        }
        dueParsed(text, width, radix, signs, want, number.longValue());
    }

    private static void dueParsed(String text, int width, int radix, boolean signs, int want, long value) {
        String call = "parse(" + width + ", " + radix + ", " + signs + ") of " + text;
        DigitMill mill = Checks.typed("13");
        mill.parse(64, 10, true);
        mill.push(42);
        mill.show(8, 32, 10, true);
        Checks.typeAll(mill, text);
        Checks.due(call, mill.parse(width, radix, signs), want);
        Checks.due(call + ": value()", mill.value(), want == 0 ? value : 13);
        Checks.due(call + ": typed()", mill.typed(), 0);
        Checks.due(call + ": word(0)", mill.word(0), 42);
        Checks.due(call + ": characterAt(0)", mill.characterAt(0), '8');
    }

    private static void parseOfTheForm() {
        dueParsed("+5", 32, 10, true, 0, 5);
        dueParsed("+5", 32, 10, false, 0, 5);
        dueParsed("-5", 32, 10, true, 0, -5);
        dueParsed("-5", 32, 10, false, 1, 0);
        dueParsed("-0", 32, 10, true, 0, 0);
        dueParsed("-0", 64, 10, true, 0, 0);
        dueParsed("-0", 64, 10, false, 1, 0);
        dueParsed("+0", 64, 10, false, 0, 0);
        dueParsed("-zZ", 64, 36, true, 0, -1295);
        dueParsed("000000000000000000000000000000000000000000007", 32, 10, true, 0, 7);
        dueParsed("-00000000000000000000000000000000000000000007", 32, 10, true, 0, -7);
    }

    private static void parseNoNumber() {
        String[] texts = {"", "+", "-", "++1", "--1", "+-1", "-+1", "1+", "1-", "1-1", " 1", "1 ", "1x", "x1", "1.0", "12a",
            "99999999999999999999999999x", "-99999999999999999999999999-", "/", ":", "1/", "1:", "~", "\u0001", ",1"};
        int[] widths = {32, 64};
        for (String text : texts) {
            for (int width : widths) {
                dueParsed(text, width, 10, true, 1, 0);
                dueParsed(text, width, 10, false, 1, 0);
            }
        }
        dueParsed("12", 32, 2, true, 1, 0);
        dueParsed("z", 32, 35, true, 1, 0);
        dueParsed("Z", 64, 35, false, 1, 0);
        dueParsed("@", 64, 36, false, 1, 0);
        dueParsed("[", 64, 36, false, 1, 0);
        dueParsed("`", 64, 36, false, 1, 0);
        dueParsed("{", 64, 36, false, 1, 0);
    }

    private static void parseAtTheEdges() {
        dueParsed("2147483647", 32, 10, true, 0, 2147483647L);
        dueParsed("2147483648", 32, 10, true, 2, 0);
        dueParsed("-2147483648", 32, 10, true, 0, -2147483648L);
        dueParsed("-2147483649", 32, 10, true, 2, 0);
        dueParsed("4294967295", 32, 10, false, 0, 4294967295L);
        dueParsed("4294967296", 32, 10, false, 2, 0);
        dueParsed("4294967296", 32, 10, true, 2, 0);
        dueParsed("-4294967296", 32, 10, true, 2, 0);
        dueParsed("9223372036854775807", 64, 10, true, 0, Long.MAX_VALUE);
        dueParsed("9223372036854775808", 64, 10, true, 2, 0);
        dueParsed("-9223372036854775808", 64, 10, true, 0, Long.MIN_VALUE);
        dueParsed("-9223372036854775809", 64, 10, true, 2, 0);
        dueParsed("18446744073709551615", 64, 10, false, 0, -1L);
        dueParsed("18446744073709551616", 64, 10, false, 2, 0);
        dueParsed("18446744073709551617", 64, 10, true, 2, 0);
        dueParsed("-18446744073709551615", 64, 10, true, 2, 0);
        dueParsed("-18446744073709551616", 64, 10, true, 2, 0);
        dueParsed("9223372036854775808", 64, 10, false, 0, Long.MIN_VALUE);
        dueParsed("-9223372036854775808", 32, 10, true, 2, 0);
        dueParsed("36893488147419103232", 64, 10, false, 2, 0);
        dueParsed("340282366920938463463374607431768211456", 64, 10, false, 2, 0);
    }

    private static void parseOfLongTexts() {
        DigitMill mill = Checks.typed("-0");
        mill.repeat(1, 65530);
        Checks.typeAll(mill, "1234");
        Checks.due("typed()", mill.typed(), 65536);
        Checks.due("parse with zeros in front", mill.parse(32, 10, true), 0);
        Checks.due("value()", mill.value(), -1234);
        mill.type('9');
        mill.repeat(1, 65535);
        Checks.due("parse of 65536 nines", mill.parse(64, 10, false), 2);
        Checks.due("value()", mill.value(), -1234);
        mill.type('9');
        mill.repeat(1, 65534);
        mill.type('-');
        Checks.due("parse of nines and -", mill.parse(64, 10, false), 1);
        Checks.due("value()", mill.value(), -1234);
        Checks.due("typed()", mill.typed(), 0);
    }

    private static void parseRefused() {
        int[][] wrong = {{33, 10}, {31, 10}, {0, 10}, {-32, 10}, {63, 10}, {65, 10}, {-64, 10}, {8, 10}, {96, 10},
            {Integer.MAX_VALUE, 10}, {Integer.MIN_VALUE, 10}, {32, 1}, {32, 0}, {32, -1}, {32, 37}, {64, 1}, {64, 0},
            {64, 37}, {64, -10}, {64, Integer.MAX_VALUE}, {32, Integer.MIN_VALUE}, {0, 0}, {33, 37}};
        for (int[] w : wrong) {
            for (int k = 0; k < 2; k++) {
                String call = "parse(" + w[0] + ", " + w[1] + ")";
                Checks.due(call + " of nothing", new DigitMill().parse(w[0], w[1], k == 0), 3);
                DigitMill mill = holdingMuch();
                Checks.due(call, mill.parse(w[0], w[1], k == 0), 3);
                dueMuch(call, mill);
            }
        }
    }
}
