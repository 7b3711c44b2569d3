/**
 * 'A call that is refused changes nothing': each call that the document says is refused, for each reason that it names, in
 * each state that has the reason. Where exactly a call begins to be refused is seen in the test of its promise.
 */
public final class RefusedTest {
    /** A NUMBER just too great for a push, and one that takes all words. */
    private static final Home[] NO_ROOM_FOR_PUSH = {Home.holdingPowerOfTwo(65472), Home.holdingPowerOfTwo(65535), Home.FULL};

    public static void main(String[] args) {
        typeOfAByteAbove126();
        typeOfTooMany();
        repeatOfNoCharacter();
        repeatOfMoreThanThereAre();
        repeatLessThanNoTime();
        repeatOfTooMany();
        readInNoRadix();
        writeInNoRadix();
        pushAboveTheGreatest();
        powerOfLessThanZero();
        powerAboveTheGreatest();
        addBelowZero();
        addAboveTheGreatest();
        showOfNoWidthOrRadix();
        parseOfNoWidthOrRadix();
        Checks.finish("RefusedTest");
    }

    private static void typeOfAByteAbove126() {
        for (Home home : Home.ALL) {
            home.refuses("type 1, 127, 1", mill -> mill.type(0x317f31L));
            home.refuses("type 1 .. 1, 255", mill -> mill.type(0x31313131313131ffL));
            home.refuses("type 128, 0 .. 0", mill -> mill.type(0x8000000000000000L));
        }
    }

    private static void typeOfTooMany() {
        Home.FULL.refuses("type 1", mill -> mill.type('1'));
        Home.FULL.refuses("type 11111111", mill -> mill.type(0x3131313131313131L));
        Home.typed("1", 1, 65530).refuses("type 010101", mill -> mill.type(0x303130313031L));
    }

    private static void repeatOfNoCharacter() {
        for (Home home : Home.ALL) {
            home.refuses("repeat(0, 1)", mill -> mill.repeat(0, 1));
            home.refuses("repeat(-1, 1)", mill -> mill.repeat(-1, 1));
        }
    }

    private static void repeatOfMoreThanThereAre() {
        for (Home home : Home.ALL) {
            int m = home.state.in().length() + 1;
            home.refuses("repeat(" + m + ", 0)", mill -> mill.repeat(m, 0));
            home.refuses("repeat(" + m + ", 1)", mill -> mill.repeat(m, 1));
        }
    }

    private static void repeatLessThanNoTime() {
        for (Home home : Home.ALL) {
            home.refuses("repeat(1, -1)", mill -> mill.repeat(1, -1));
            home.refuses("repeat(2, MIN_VALUE)", mill -> mill.repeat(2, Integer.MIN_VALUE));
        }
    }

    private static void repeatOfTooMany() {
        for (Home home : Home.ALL) {
            int n = 65536 - home.state.in().length() + 1;
            home.refuses("repeat(1, " + n + ")", mill -> mill.repeat(1, n));
            home.refuses("repeat(2, MAX_VALUE)", mill -> mill.repeat(2, Integer.MAX_VALUE));
        }
    }

    private static void readInNoRadix() {
        for (Home home : Home.ALL) {
            home.refuses("read(1)", mill -> mill.read(1), -3);
            home.refuses("read(37)", mill -> mill.read(37), -3);
        }
    }

    private static void writeInNoRadix() {
        for (Home home : Home.ALL) {
            home.refuses("write(1)", mill -> mill.write(1), -1);
            home.refuses("write(37)", mill -> mill.write(37), -1);
        }
    }

    private static void pushAboveTheGreatest() {
        for (Home home : NO_ROOM_FOR_PUSH) {
            home.refuses("push(0)", mill -> mill.push(0));
            home.refuses("push(-1)", mill -> mill.push(-1));
        }
    }

    private static void powerOfLessThanZero() {
        for (Home home : Home.ALL) {
            home.refuses("power(-1, 2)", mill -> mill.power(-1, 2));
            home.refuses("power(2, -1)", mill -> mill.power(2, -1));
            home.refuses("power(-1, -1)", mill -> mill.power(-1, -1));
        }
    }

    private static void powerAboveTheGreatest() {
        for (Home home : Home.ALL) {
            home.refuses("power(2, 65536)", mill -> mill.power(2, 65536));
            home.refuses("power(3, 41349)", mill -> mill.power(3, 41349));
            home.refuses("power(MAX_VALUE, MAX_VALUE)", mill -> mill.power(Integer.MAX_VALUE, Integer.MAX_VALUE));
        }
    }

    private static void addBelowZero() {
        Home.FRESH.refuses("add(-1)", mill -> mill.add(-1));
        Home.SMALL.refuses("add(-43)", mill -> mill.add(-43));
        Home.SMALL.refuses("add(MIN_VALUE)", mill -> mill.add(Integer.MIN_VALUE));
    }

    private static void addAboveTheGreatest() {
        Home.FULL.refuses("add(1)", mill -> mill.add(1));
        Home.FULL.refuses("add(MAX_VALUE)", mill -> mill.add(Integer.MAX_VALUE));
    }

    private static void showOfNoWidthOrRadix() {
        for (Home home : Home.ALL) {
            home.refuses("show(7, 33, 10, true)", mill -> mill.show(7, 33, 10, true), -1);
            home.refuses("show(-7, 32, 37, false)", mill -> mill.show(-7, 32, 37, false), -1);
            home.refuses("show(-7, 64, 1, true)", mill -> mill.show(-7, 64, 1, true), -1);
        }
    }

    private static void parseOfNoWidthOrRadix() {
        for (Home home : Home.ALL) {
            home.refuses("parse(63, 10, true)", mill -> mill.parse(63, 10, true), 3);
            home.refuses("parse(32, 37, false)", mill -> mill.parse(32, 37, false), 3);
            home.refuses("parse(64, 1, true)", mill -> mill.parse(64, 1, true), 3);
        }
    }
}
