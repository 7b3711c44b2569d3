import java.math.BigInteger;

/** Promise 4, and the DIGITS of the Terms. */
public final class ReadTest {
    public static void main(String[] args) {
        whatTheTextInSays();
        theDigitsOfARadix();
        zerosInFront();
        theFirstThatIsNoDigit();
        noCharacterAtAll();
        theTextInIsEmptyThen();
        theGreatestNumberAndTheNext();
        justBelowAndJustAboveTheGreatest();
        farAboveTheGreatest();
        noDigitInANumberTooGreat();
        radixNot2To36();
        Checks.finish("ReadTest");
    }

    private static String call(int radix) {
        return "read(" + radix + ")";
    }

    /** The NUMBER becomes it, the TEXT IN is empty then, and all else stays. */
    private static void reads(Home home, int radix) {
        State next = home.state.withIn("").withNumber(new BigInteger(home.state.in(), radix));
        home.becomes(call(radix), mill -> mill.read(radix), -1, next);
    }

    /** 'Otherwise the NUMBER stays'; the TEXT IN is empty then too. */
    private static void readsNothing(Home home, int radix, int answer) {
        home.becomes(call(radix), mill -> mill.read(radix), answer, home.state.withIn(""));
    }

    /** 'The NUMBER becomes what the TEXT IN says in a radix: -1': of few digits and of many, in every radix */
    private static void whatTheTextInSays() {
        for (int radix = 2; radix <= 36; radix++) {
            char highest = Checks.DIGITS.charAt(radix - 1);
            StringBuilder mixed = new StringBuilder();
            for (int length = 1; length <= 72; length++) {
                char digit = Checks.DIGITS.charAt((7 * length + 3) % radix);
                mixed.append(length % 2 == 0 ? digit : Character.toUpperCase(digit));
                reads(Home.SMALL.typing(mixed.toString()), radix);
                reads(Home.SMALL.typing(String.valueOf(highest).repeat(length)), radix);
                reads(Home.SMALL.typing("1" + "0".repeat(length - 1)), radix);
            }
        }
        reads(Home.SMALL, 10);
        reads(Home.MIDDLE, 36);
        reads(Home.FULL, 2);
    }

    /** 'The DIGITS of a radix are 0 .. 9 and a .. z, or A .. Z, for 10 .. 35, those below the radix': no others */
    private static void theDigitsOfARadix() {
        for (int radix = 2; radix <= 36; radix++) {
            for (int code = 1; code <= 126; code++) {
                int digit = Checks.DIGITS.indexOf(Character.toLowerCase((char) code));
                boolean good = digit >= 0 && digit < radix;
                String text = "1" + (char) code;
                DigitMill mill = Checks.typed(text);
                String line = call(radix) + " of 1 and code " + code;
                Checks.due(line, mill.read(radix), good ? -1 : 1);
                Checks.due(line + ": word(0)", mill.word(0), good ? radix + digit : 0);
                Checks.due(line + ": typed()", mill.typed(), 0);
            }
        }
    }

    /** No bound on the zeros but the TEXT IN's own. */
    private static void zerosInFront() {
        int[] radixes = {2, 3, 10, 16, 35, 36};
        for (int radix : radixes) {
            reads(Home.SMALL.typing("0"), radix);
            reads(Home.SMALL.typing("00"), radix);
            reads(Home.SMALL.typing("01"), radix);
            DigitMill zeros = Checks.typed("0");
            zeros.repeat(1, 65535);
            Checks.due(call(radix) + " of 65536 zeros", zeros.read(radix), -1);
            Checks.due("bits() of it", zeros.bits(), 0);
            DigitMill one = Checks.typed("0");
            one.repeat(1, 65533);
            Checks.typeAll(one, "11");
            Checks.due(call(radix) + " of 65534 zeros and 11", one.read(radix), -1);
            Checks.due("word(0) of it", one.word(0), radix + 1);
            Checks.due("word(1) of it", one.word(1), 0);
        }
    }

    /** 'the place of the first character that is no digit of the radix, from 0' */
    private static void theFirstThatIsNoDigit() {
        for (int length = 1; length <= 20; length++) {
            String digits = "10110111011110111110".substring(0, length);
            for (int place = 0; place < length; place++) {
                String one = digits.substring(0, place) + "2" + digits.substring(place + 1);
                readsNothing(Home.SMALL.typing(one), 2, place);
                String all = digits.substring(0, place) + "z".repeat(length - place);
                readsNothing(Home.SMALL.typing(all), 35, place);
            }
        }
        String[] signs = {"+1", "-1", " 1", "+", "-", "_"};
        for (String sign : signs) {
            readsNothing(Home.SMALL.typing(sign), 36, 0);
        }
        readsNothing(Home.MIDDLE, 35, 2);
        readsNothing(Home.typed("2", 1, 65535), 2, 0);
        int[] places = {1, 2, 255, 256, 32767, 32768, 65534, 65535};
        for (int place : places) {
            DigitMill mill = Checks.typed("1");
            mill.repeat(1, place - 1);
            mill.type('2');
            mill.repeat(1, 65535 - place);
            Checks.due("read(2) of " + place + " ones, then twos", mill.read(2), place);
            Checks.due("bits() of it", mill.bits(), 0);
            Checks.due("typed() of it", mill.typed(), 0);
        }
    }

    /** '(0 when there is none at all)' */
    private static void noCharacterAtAll() {
        for (int radix = 2; radix <= 36; radix++) {
            readsNothing(Home.FRESH, radix, 0);
            readsNothing(Home.SMALL.typing(""), radix, 0);
        }
        readsNothing(Home.MIDDLE.typing(""), 10, 0);
        readsNothing(Home.FULL.typing(""), 10, 0);
    }

    /** 'The TEXT IN is empty then, also in what follows': a second call finds nothing, and what is typed begins anew */
    private static void theTextInIsEmptyThen() {
        String[] texts = {"12", "1z", "z", "", "7"};
        for (String text : texts) {
            DigitMill mill = Checks.typed(text);
            mill.read(10);
            Checks.due("typed() after read(10) of " + text, mill.typed(), 0);
            Checks.due("a second read(10)", mill.read(10), 0);
            Checks.due("repeat(1, 0)", mill.repeat(1, 0), false);
            mill.type('5');
            Checks.due("typed() after it", mill.typed(), 1);
            Checks.due("a third read(10)", mill.read(10), -1);
            Checks.due("word(0) after it", mill.word(0), 5);
        }
        DigitMill tooGreat = Checks.typed("9");
        tooGreat.repeat(1, 65535);
        Checks.due("read(10) of 65536 nines", tooGreat.read(10), -2);
        Checks.due("typed() after it", tooGreat.typed(), 0);
        Checks.due("a second read(10)", tooGreat.read(10), 0);
    }

    /** '-2 when all are digits, but the number would be above 2^65536 - 1': where both texts can be typed, to the one */
    private static void theGreatestNumberAndTheNext() {
        reads(Home.typed("1", 1, 65535), 2);
        // 65,536 is a multiple of 2 and of 4, and one more than a multiple of 3 and of 5.
        String[][] texts = {{"4", "3", "10", "32768"}, {"16", "f", "10", "16384"}, {"8", "17", "20", "21845"},
            {"32", "1v", "20", "13107"}};
        for (String[] t : texts) {
            int radix = Integer.parseInt(t[0]);
            int zeros = Integer.parseInt(t[3]);
            Home greatest = Home.typed("0" + t[1], 1, zeros - 1);
            Checks.due("it is the greatest", new BigInteger(greatest.state.in(), radix).equals(Checks.TOP), true);
            becomesTheGreatest(greatest, radix);
            Home next = Home.typed(t[2], 1, zeros - 1);
            Checks.due("it is the next", new BigInteger(next.state.in(), radix).subtract(BigInteger.ONE).equals(Checks.TOP), true);
            isTooGreat(next, radix);
            isTooGreat(Home.typed("00" + t[2], 1, zeros - 1), radix);
        }
        becomesTheGreatest(afterZeros('f', 16384), 16);
        isTooGreat(afterZeros('f', 16385), 16);
        isTooGreat(afterZeros('3', 32769), 4);
    }

    /** A TEXT IN of 65,536 characters, the last ones of them this digit. */
    private static Home afterZeros(char digit, int count) {
        String in = "0".repeat(65536 - count) + String.valueOf(digit).repeat(count);
        Home zeros = Home.typed("0", 1, 65535 - count);
        return new Home(count + " times " + digit + " after zeros", () -> {
            DigitMill mill = zeros.made.get();
            mill.type(digit);
            mill.repeat(1, count - 1);
            return mill;
        }, zeros.state.withIn(in));
    }

    private static void becomesTheGreatest(Home home, int radix) {
        home.becomes(call(radix), mill -> mill.read(radix), -1, home.state.withIn("").withNumber(Checks.TOP));
    }

    private static void isTooGreat(Home home, int radix) {
        readsNothing(home, radix, -2);
    }

    /** In a radix whose greatest text is too long to be typed: its first 60 digits and zeros; the 60th one more is too great. */
    private static void justBelowAndJustAboveTheGreatest() {
        for (int radix = 3; radix <= 36; radix++) {
            int zeros = Checks.TOP.toString(radix).length() - 60;
            BigInteger fold = BigInteger.valueOf(radix).pow(zeros);
            BigInteger front = Checks.TOP.divide(fold);
            int r = radix;
            Home below = Home.typed(front.toString(radix) + "0", 1, zeros - 1);
            below.becomes(call(r), mill -> mill.read(r), -1, below.state.withIn("").withNumber(front.multiply(fold)));
            isTooGreat(Home.typed(front.add(BigInteger.ONE).toString(radix) + "0", 1, zeros - 1), radix);
        }
    }

    /** As many of the highest digit as can be below the greatest number, one more, and as many as can be typed. */
    private static void farAboveTheGreatest() {
        for (int radix = 3; radix <= 36; radix++) {
            String highest = String.valueOf(Checks.DIGITS.charAt(radix - 1));
            int fits = Checks.TOP.add(BigInteger.ONE).toString(radix).length() - 1;
            int r = radix;
            BigInteger greatest = BigInteger.valueOf(radix).pow(fits).subtract(BigInteger.ONE);
            Home most = Home.typed(highest, 1, fits - 1);
            most.becomes(call(r), mill -> mill.read(r), -1, most.state.withIn("").withNumber(greatest));
            isTooGreat(Home.typed(highest, 1, fits), radix);
            isTooGreat(Home.typed(highest, 1, 65535), radix);
            isTooGreat(Home.typed("10", 1, 65534), radix);
        }
        isTooGreat(Home.FULL, 3);
        isTooGreat(Home.FULL, 36);
    }

    /** '-2 when all are digits': when one is not, its place is answered */
    private static void noDigitInANumberTooGreat() {
        int[] lengths = {20000, 65535};
        for (int length : lengths) {
            DigitMill last = Checks.typed("9");
            last.repeat(1, length - 1);
            last.type('a');
            Checks.due("read(10) of " + length + " nines and a", last.read(10), length);
            Checks.due("typed() after it", last.typed(), 0);
        }
        DigitMill first = Checks.typed("a9");
        first.repeat(1, 65534);
        Checks.due("read(10) of a and 65535 nines", first.read(10), 0);
    }

    /** '-3 when the radix is not 2 .. 36', also when the TEXT IN is empty, says no number, or one too great */
    private static void radixNot2To36() {
        for (int radix : Checks.NO_RADIXES) {
            for (Home home : Home.ALL) {
                home.refuses(call(radix), mill -> mill.read(radix), -3);
            }
            Home.SMALL.typing("~").refuses(call(radix), mill -> mill.read(radix), -3);
        }
        reads(Home.SMALL.typing("10"), 2);
        reads(Home.SMALL.typing("12"), 3);
        reads(Home.SMALL.typing("yY"), 35);
        reads(Home.SMALL.typing("zZ"), 36);
    }
}
