import java.math.BigInteger;

/** Promises 1 (what typed and the texts say), 2, 3 and 15. */
public final class TextInTest {
    public static void main(String[] args) {
        newObject();
        typeOrdinary();
        typeLeavesZerosOut();
        typeTakesCodesUpTo126();
        typeRefusesCodesAbove126();
        typeUpToTheLimit();
        repeatOrdinary();
        repeatRefused();
        repeatUpToTheLimit();
        Checks.finish("TextInTest");
    }

    private static void newObject() {
        DigitMill mill = new DigitMill();
        Checks.due("new: typed()", mill.typed(), 0);
        Checks.due("new: bits()", mill.bits(), 0);
        Checks.due("new: word(0)", mill.word(0), 0);
        Checks.due("new: value()", mill.value(), 0);
        Checks.due("new: characterAt(0)", mill.characterAt(0), -1);
        Checks.due("new: write(10)", mill.write(10), 1);
        Checks.due("new: characterAt(0) of 0", mill.characterAt(0), '0');
        DigitMill other = Checks.typed("77");
        other.read(10);
        Checks.due("another object's number", mill.bits(), 0);
        Checks.due("its number", other.bits(), 7);
    }

    private static void typeOrdinary() {
        DigitMill mill = new DigitMill();
        Checks.due("type(12345678)", mill.type(Checks.eight("12345678")), true);
        Checks.due("typed()", mill.typed(), 8);
        Checks.due("type(9)", mill.type('9'), true);
        Checks.due("typed()", mill.typed(), 9);
        Checks.due("read(10)", mill.read(10), -1);
        Checks.due("word(0)", mill.word(0), 123456789);
        Checks.due("typed() after read", mill.typed(), 0);
    }

    private static void typeLeavesZerosOut() {
        DigitMill mill = new DigitMill();
        Checks.due("type(0)", mill.type(0), true);
        Checks.due("typed()", mill.typed(), 0);
        Checks.due("type(1 0 2 0 0 3 0 0)", mill.type(0x3100320000330000L), true);
        Checks.due("typed()", mill.typed(), 3);
        mill.read(10);
        Checks.due("word(0)", mill.word(0), 123);
    }

    private static void typeTakesCodesUpTo126() {
        for (int place = 0; place < 8; place++) {
            DigitMill mill = new DigitMill();
            Checks.due("type(126)", mill.type(126L << 8 * place), true);
            Checks.due("type(1)", mill.type(1L << 8 * place), true);
            Checks.due("typed()", mill.typed(), 2);
            Checks.due("read(36)", mill.read(36), 0);
        }
    }

    private static void typeRefusesCodesAbove126() {
        int[] codes = {127, 128, 129, 200, 255};
        for (int code : codes) {
            for (int place = 0; place < 8; place++) {
                DigitMill mill = Checks.typed("12");
                long others = 0x3333333333333333L & ~(255L << 8 * place);
                Checks.due("type with " + code, mill.type(others | (long) code << 8 * place), false);
                Checks.due("typed() after it", mill.typed(), 2);
                mill.type('4');
                Checks.due("read(10) after it", mill.read(10), -1);
                Checks.due("word(0) after it", mill.word(0), 124);
            }
        }
        Checks.due("type(-1)", new DigitMill().type(-1L), false);
        Checks.due("type(MIN_VALUE)", new DigitMill().type(Long.MIN_VALUE), false);
    }

    private static void typeUpToTheLimit() {
        DigitMill mill = Checks.typed("0");
        mill.repeat(1, 65536 - 1 - 7);
        Checks.due("type of 8 where 7 have room", mill.type(Checks.eight("11111111")), false);
        Checks.due("typed()", mill.typed(), 65529);
        Checks.due("type of 6", mill.type(Checks.eight("111111")), true);
        Checks.due("type of 2 where 1 has room", mill.type(Checks.eight("11")), false);
        Checks.due("type of 1", mill.type('1'), true);
        Checks.due("typed()", mill.typed(), 65536);
        Checks.due("type of 1 more", mill.type('1'), false);
        Checks.due("type(0) when full", mill.type(0), true);
        Checks.due("typed()", mill.typed(), 65536);
        Checks.due("read(10)", mill.read(10), -1);
        Checks.due("word(0)", mill.word(0), 1111111);
        Checks.due("typed()", mill.typed(), 0);
    }

    private static void repeatOrdinary() {
        DigitMill mill = Checks.typed("123");
        Checks.due("repeat(2, 3)", mill.repeat(2, 3), true);
        Checks.due("typed()", mill.typed(), 9);
        mill.read(10);
        Checks.due("word(0)", mill.word(0), 123232323);

        DigitMill all = Checks.typed("12");
        Checks.due("repeat(2, 1)", all.repeat(2, 1), true);
        Checks.due("repeat(4, 1)", all.repeat(4, 1), true);
        Checks.due("repeat(1, 1)", all.repeat(1, 1), true);
        Checks.due("repeat(9, 0)", all.repeat(9, 0), true);
        Checks.due("typed()", all.typed(), 9);
        all.read(10);
        Checks.due("word(0)", all.word(0), 121212122);
    }

    private static void repeatRefused() {
        Checks.due("repeat(1, 0) of nothing", new DigitMill().repeat(1, 0), false);
        Checks.due("repeat(0, 0) of nothing", new DigitMill().repeat(0, 0), false);
        int[][] wrong = {{0, 1}, {-1, 1}, {4, 1}, {4, 0}, {0, 0}, {1, -1}, {3, -1}, {Integer.MIN_VALUE, 1},
            {Integer.MAX_VALUE, 1}, {1, Integer.MIN_VALUE}, {1, Integer.MAX_VALUE}, {2, Integer.MAX_VALUE},
            {1, 65534}, {2, 32767}, {3, 21845}, {2, 1 << 30}, {2, 1 << 31}, {1, -65536}};
        for (int[] w : wrong) {
            DigitMill mill = Checks.typed("123");
            Checks.due("repeat(" + w[0] + ", " + w[1] + ")", mill.repeat(w[0], w[1]), false);
            Checks.due("typed() after it", mill.typed(), 3);
            mill.type('4');
            mill.read(10);
            Checks.due("word(0) after it", mill.word(0), 1234);
        }
        DigitMill full = Checks.typed("12");
        full.repeat(2, 32767);
        Checks.due("repeat of 65536 characters 65536 times", full.repeat(65536, 65536), false);
        Checks.due("repeat of 65536 characters 2^31 - 1 times", full.repeat(65536, Integer.MAX_VALUE), false);
        Checks.due("repeat of 65536 characters no time", full.repeat(65536, 0), true);
        Checks.due("repeat of 1 character", full.repeat(1, 1), false);
        Checks.due("repeat of 65537 characters", full.repeat(65537, 0), false);
        Checks.due("typed()", full.typed(), 65536);
    }

    private static void repeatUpToTheLimit() {
        DigitMill mill = Checks.typed("1");
        Checks.due("repeat(1, 65536)", mill.repeat(1, 65536), false);
        Checks.due("repeat(1, 65535)", mill.repeat(1, 65535), true);
        Checks.due("typed()", mill.typed(), 65536);
        Checks.dueNumber("2^65536 - 1", Checks::holdingTop, Checks.TOP);

        DigitMill three = Checks.typed("100");
        Checks.due("repeat(3, 21844)", three.repeat(3, 21844), true);
        Checks.due("typed()", three.typed(), 65535);
        Checks.due("repeat(2, 1)", three.repeat(2, 1), false);
        Checks.due("repeat(3, 1)", three.repeat(3, 1), false);
        Checks.due("repeat(1, 1)", three.repeat(1, 1), true);
        Checks.due("typed()", three.typed(), 65536);
        String want = "100".repeat(21845) + "0";
        Checks.dueNumber("100100..", () -> {
            DigitMill again = Checks.typed("100");
            again.repeat(3, 21844);
            again.repeat(1, 1);
            again.read(2);
            return again;
        }, new BigInteger(want, 2));
    }
}
