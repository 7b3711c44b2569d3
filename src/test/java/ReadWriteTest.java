import java.math.BigInteger;

/** Promises 4, 5 and 14. */
public final class ReadWriteTest {
    private static final String DIGITS = "0123456789abcdefghijklmnopqrstuvwxyz";

    public static void main(String[] args) {
        readOrdinary();
        readEveryCharacterInEveryRadix();
        readFindsTheFirstOther();
        readTooGreat();
        readRefused();
        writeOrdinary();
        writeEveryRadix();
        writeDoesNotChangeTheNumber();
        writeRefused();
        characterAtBeyond();
        Checks.finish("ReadWriteTest");
    }

    private static void readOrdinary() {
        String[] texts = {"0", "1", "00", "0001", "1000000000", "4294967295", "4294967296", "18446744073709551615",
            "18446744073709551616", "0000000000000000000000012345678901234567890123456789012345678901234567890"};
        for (String text : texts) {
            Checks.dueNumber("read(10) of " + text, () -> {
                DigitMill mill = Checks.typed(text);
                Checks.due("read(10)", mill.read(10), -1);
                Checks.due("typed() after read", mill.typed(), 0);
                return mill;
            }, new BigInteger(text));
        }
        DigitMill both = Checks.typed("fFaA");
        Checks.due("read(16)", both.read(16), -1);
        Checks.due("word(0)", both.word(0), 0xffaa);
        Checks.due("a second read", both.read(16), 0);
        Checks.due("word(0) after it", both.word(0), 0xffaa);
    }

    private static void readEveryCharacterInEveryRadix() {
        for (int radix = 2; radix <= 36; radix++) {
            for (int code = 1; code <= 126; code++) {
                int digit = DIGITS.indexOf(Character.toLowerCase((char) code));
                boolean good = digit >= 0 && digit < radix;
                DigitMill mill = Checks.typed("1" + (char) code);
                String call = "read(" + radix + ") of 1 and " + code;
                Checks.due(call, mill.read(radix), good ? -1 : 1);
                Checks.due(call + ": word(0)", mill.word(0), good ? radix + digit : 0);
                Checks.due(call + ": typed()", mill.typed(), 0);
            }
        }
    }

    private static void readFindsTheFirstOther() {
        Object[][] cases = {{"", 10, 0}, {"x", 10, 0}, {"1x", 10, 1}, {"12x4x", 10, 2}, {"+1", 10, 0}, {"-1", 10, 0},
            {"1 ", 10, 1}, {" 1", 10, 0}, {"012", 2, 2}, {"1.5", 10, 1}, {"123456789a", 10, 9}, {"zzzzzzzz{", 36, 8},
            {"11112", 2, 4}, {"_", 36, 0}, {"/", 10, 0}, {":", 10, 0}, {"@", 36, 0}, {"[", 36, 0}, {"`", 36, 0}};
        for (Object[] c : cases) {
            DigitMill mill = Checks.typed("77");
            mill.read(10);
            Checks.typeAll(mill, (String) c[0]);
            Checks.due("read(" + c[1] + ") of " + c[0], mill.read((Integer) c[1]), (Integer) c[2]);
            Checks.due("its NUMBER stays", mill.word(0), 77);
            Checks.due("the TEXT IN is empty", mill.typed(), 0);
        }
        DigitMill full = Checks.typed("1");
        full.repeat(1, 65534);
        full.type('?');
        Checks.due("read(10) of 65535 ones and ?", full.read(10), 65535);
        Checks.due("bits()", full.bits(), 0);
        Checks.due("typed()", full.typed(), 0);
    }

    private static void readTooGreat() {
        for (int radix = 2; radix <= 36; radix++) {
            String top = Checks.TOP.toString(radix);
            int most = top.length();
            if (most < 65536) {
                int r = radix;
                String digit = String.valueOf(DIGITS.charAt(radix - 1));
                BigInteger below = BigInteger.valueOf(radix).pow(most - 1).subtract(BigInteger.ONE);
                Checks.dueNumber("read(" + radix + ") of the most digits", () -> {
                    DigitMill mill = Checks.typed(digit);
                    mill.repeat(1, most - 2);
                    Checks.due("read of the most digits", mill.read(r), -1);
                    return mill;
                }, below);
                DigitMill mill = Checks.typed("5");
                mill.read(10);
                Checks.typeAll(mill, digit);
                mill.repeat(1, 65535);
                Checks.due("read(" + radix + ") of 65536 of the highest", mill.read(radix), -2);
                Checks.due("its NUMBER stays", mill.word(0), 5);
                Checks.due("its bits stay", mill.bits(), 3);
                Checks.due("the TEXT IN is empty", mill.typed(), 0);
            }
        }
        tooGreatByOne();
        greatestWithZerosBehind();
        otherCharacterBeforeTooGreat();
        zerosInFront();
    }

    /** In radix 16 the greatest number is 16384 times f; one more is 1 and 16384 times 0. */
    private static void tooGreatByOne() {
        Checks.dueNumber("read(16) of the greatest", () -> {
            DigitMill mill = Checks.typed("F");
            mill.repeat(1, 16383);
            Checks.due("read(16)", mill.read(16), -1);
            return mill;
        }, Checks.TOP);
        int[] radixes = {4, 16};
        for (int radix : radixes) {
            DigitMill mill = Checks.typed("10");
            mill.repeat(1, 65536 / Integer.numberOfTrailingZeros(radix) - 1);
            Checks.due("read(" + radix + ") of 2^65536", mill.read(radix), -2);
            Checks.due("bits()", mill.bits(), 0);
            Checks.due("typed()", mill.typed(), 0);
        }
    }

    /** The highest digits of the greatest number and zeros behind them fit; with 1 more at their end they don't. */
    private static void greatestWithZerosBehind() {
        for (int radix = 2; radix <= 36; radix++) {
            int zeros = Checks.TOP.toString(radix).length() - 60;
            BigInteger fold = BigInteger.valueOf(radix).pow(zeros);
            BigInteger front = Checks.TOP.divide(fold);
            int r = radix;
            Checks.dueNumber("read(" + radix + ") of the greatest with zeros behind", () -> {
                DigitMill mill = Checks.typed(front.toString(r) + "0");
                mill.repeat(1, zeros - 1);
                Checks.due("read(" + r + ") of the greatest with zeros behind", mill.read(r), -1);
                return mill;
            }, front.multiply(fold));
            DigitMill mill = Checks.typed(front.add(BigInteger.ONE).toString(radix) + "0");
            boolean room = mill.repeat(1, zeros - 1);
            Checks.due("room for 60 digits and the zeros", room, radix > 2);
            if (room) {
                Checks.due("read(" + radix + ") of one just too great", mill.read(radix), -2);
                Checks.due("bits()", mill.bits(), 0);
                Checks.due("typed()", mill.typed(), 0);
            }
        }
    }

    private static void otherCharacterBeforeTooGreat() {
        DigitMill mill = Checks.typed("9");
        mill.repeat(1, 65534);
        mill.type('a');
        Checks.due("read(10) of a number too great with an a", mill.read(10), 65535);
    }

    private static void zerosInFront() {
        DigitMill mill = Checks.typed("0");
        mill.repeat(1, 65532);
        Checks.typeAll(mill, "12z");
        Checks.due("read(36) with zeros in front", mill.read(36), -1);
        Checks.due("word(0)", mill.word(0), 36 * 36 + 2 * 36 + 35);
        Checks.due("bits()", mill.bits(), 11);
        DigitMill zero = Checks.typed("0");
        zero.repeat(1, 65535);
        Checks.due("read(7) of zeros", zero.read(7), -1);
        Checks.due("bits()", zero.bits(), 0);
    }

    private static void readRefused() {
        int[] wrong = {1, 0, -1, 37, 38, -2, -10, 64, Integer.MIN_VALUE, Integer.MAX_VALUE, 65536 + 10};
        for (int radix : wrong) {
            DigitMill mill = Checks.typed("34");
            mill.read(10);
            mill.write(10);
            Checks.due("read(" + radix + ") of nothing", mill.read(radix), -3);
            Checks.typeAll(mill, "12");
            Checks.due("read(" + radix + ")", mill.read(radix), -3);
            Checks.due("typed() after it", mill.typed(), 2);
            Checks.due("word(0) after it", mill.word(0), 34);
            Checks.due("characterAt(1) after it", mill.characterAt(1), '4');
            Checks.due("characterAt(2) after it", mill.characterAt(2), -1);
            Checks.due("read(10) after it", mill.read(10), -1);
            Checks.due("word(0)", mill.word(0), 12);
        }
    }

    private static void writeOrdinary() {
        String[] numbers = {"0", "1", "9", "10", "35", "36", "999999999", "1000000000", "1000000001", "2147483647",
            "2147483648", "4294967295", "4294967296", "1000000000000000000", "18446744073709551615",
            "18446744073709551616", "1000000000000000000000000000000000000", "123456789012345678901234567890"};
        for (String n : numbers) {
            for (int radix = 2; radix <= 36; radix++) {
                int r = radix;
                BigInteger number = new BigInteger(n);
                String want = number.toString(radix);
                Checks.dueText("write(" + radix + ") of " + n, () -> {
                    DigitMill mill = Checks.holding(number);
                    Checks.due("write(" + r + ") of " + n, mill.write(r), want.length());
                    return mill;
                }, want);
            }
        }
    }

    /** The greatest number, one with zeros inside, and powers of the radix, where a zero more would show. */
    private static void writeEveryRadix() {
        for (int radix = 2; radix <= 36; radix++) {
            int r = radix;
            String top = Checks.TOP.toString(radix);
            Checks.dueText("write(" + radix + ") of the greatest", () -> {
                DigitMill mill = Checks.holdingTop();
                Checks.due("write(" + r + ") of the greatest", mill.write(r), top.length());
                return mill;
            }, top);
            for (int e = 1; e <= 200; e++) {
                String power = "1" + "0".repeat(e);
                Checks.dueText("write(" + radix + ") of its power " + e, () -> {
                    DigitMill mill = new DigitMill();
                    mill.power(r, power.length() - 1);
                    Checks.due("write(" + r + ") of its power", mill.write(r), power.length());
                    return mill;
                }, power);
            }
        }
    }

    private static void writeDoesNotChangeTheNumber() {
        for (int radix = 2; radix <= 36; radix++) {
            int r = radix;
            BigInteger number = BigInteger.valueOf(radix).pow(50).add(BigInteger.valueOf(77));
            Checks.dueNumber("after write(" + radix + ")", () -> {
                DigitMill mill = Checks.holding(number);
                mill.write(r);
                return mill;
            }, number);
        }
        DigitMill mill = Checks.typed("100");
        mill.read(10);
        Checks.typeAll(mill, "5");
        Checks.due("write(10)", mill.write(10), 3);
        Checks.due("typed() after write", mill.typed(), 1);
        mill.read(10);
        Checks.due("the TEXT OUT after read", mill.characterAt(2), '0');
        Checks.due("a shorter text", mill.write(10), 1);
        Checks.due("its character 0", mill.characterAt(0), '5');
        Checks.due("its character 1", mill.characterAt(1), -1);
    }

    private static void writeRefused() {
        int[] wrong = {1, 0, -1, 37, -36, Integer.MIN_VALUE, Integer.MAX_VALUE};
        for (int radix : wrong) {
            DigitMill fresh = new DigitMill();
            Checks.due("write(" + radix + ") of a new object", fresh.write(radix), -1);
            Checks.due("characterAt(0)", fresh.characterAt(0), -1);
            DigitMill mill = Checks.typed("42");
            mill.read(10);
            mill.write(10);
            mill.add(1);
            mill.type('7');
            Checks.due("write(" + radix + ")", mill.write(radix), -1);
            Checks.due("characterAt(0) after it", mill.characterAt(0), '4');
            Checks.due("characterAt(1) after it", mill.characterAt(1), '2');
            Checks.due("characterAt(2) after it", mill.characterAt(2), -1);
            Checks.due("word(0) after it", mill.word(0), 43);
            Checks.due("typed() after it", mill.typed(), 1);
        }
    }

    private static void characterAtBeyond() {
        int[] none = {-1, 3, 4, -3, 65535, 65536, Integer.MAX_VALUE, Integer.MIN_VALUE};
        DigitMill mill = new DigitMill();
        for (int k : none) {
            Checks.due("new: characterAt(" + k + ")", mill.characterAt(k), -1);
        }
        mill.show(-35, 64, 12, true);
        Checks.due("characterAt(0)", mill.characterAt(0), '-');
        Checks.due("characterAt(1)", mill.characterAt(1), '2');
        Checks.due("characterAt(2)", mill.characterAt(2), 'b');
        for (int k : none) {
            Checks.due("characterAt(" + k + ")", mill.characterAt(k), -1);
        }
        DigitMill full = Checks.holdingTop();
        Checks.due("write(2)", full.write(2), 65536);
        Checks.due("characterAt(0)", full.characterAt(0), '1');
        Checks.due("characterAt(65535)", full.characterAt(65535), '1');
        Checks.due("characterAt(65536)", full.characterAt(65536), -1);
        Checks.due("characterAt(MAX_VALUE)", full.characterAt(Integer.MAX_VALUE), -1);
    }
}
