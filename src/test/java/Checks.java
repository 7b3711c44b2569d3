import java.math.BigInteger;
import java.util.function.Supplier;

/** What the tests share. A test's main ends with finish(), which exits with 1 if an answer was wrong. */
final class Checks {
    /** An object answers 512 calls: longer looks are shared out among objects made alike. */
    private static final int LOOKS = 400;
    private static final int MOST_PRINTED = 50;

    static final BigInteger TOP = BigInteger.ONE.shiftLeft(65536).subtract(BigInteger.ONE);

    static final String DIGITS = "0123456789abcdefghijklmnopqrstuvwxyz";
    /** Next to the radixes on both sides, far from them, and alike to one in the lowest 8, 16 or 31 bits. */
    static final int[] NO_RADIXES = {1, 0, -1, -2, -10, -36, 37, 38, 64, 100, 256 + 10, 65536 + 10, Integer.MIN_VALUE + 10,
        Integer.MIN_VALUE, Integer.MAX_VALUE};
    static final int[] NO_WIDTHS = {0, 1, 8, 16, 31, 33, 48, 63, 65, 96, 128, -1, -32, -64, 256 + 32, 65536 + 64,
        Integer.MIN_VALUE + 32, Integer.MIN_VALUE, Integer.MAX_VALUE};

    private static int right = 0;
    private static int wrong = 0;

    private Checks() {
    }

    static void due(String call, long got, long want) {
        if (got == want) {
            right++;
            return;
        }
        wrong++;
        if (wrong <= MOST_PRINTED) {
            System.out.println(call + " answered " + got + ", due is " + want);
        }
    }

    static void due(String call, boolean got, boolean want) {
        due(call, got ? 1L : 0L, want ? 1L : 0L);
    }

    static void finish(String test) {
        System.out.println(test + ": " + right + " answers as due, " + wrong + " not");
        if (wrong != 0 || right == 0) {
            System.exit(1);
        }
    }

    /** Types a text of any length by as few calls as it can. */
    static DigitMill typeAll(DigitMill mill, String text) {
        for (int from = 0; from < text.length(); from += 8) {
            due("type of a part", mill.type(eight(text.substring(from, Math.min(from + 8, text.length())))), true);
        }
        return mill;
    }

    /** The bytes of up to eight characters, the first one the highest that is not 0. */
    static long eight(String text) {
        long bytes = 0;
        for (int i = 0; i < text.length(); i++) {
            bytes = bytes << 8 | text.charAt(i);
        }
        return bytes;
    }

    static DigitMill typed(String text) {
        return typeAll(new DigitMill(), text);
    }

    /** A NUMBER that is 0 becomes this one, by push alone: one of few bits, for a push is a call. */
    static DigitMill pushAll(DigitMill mill, BigInteger number) {
        int longs = (number.bitLength() + 63) / 64;
        for (int k = longs - 1; k >= 0; k--) {
            due("push", mill.push(number.shiftRight(64 * k).longValue()), true);
        }
        return mill;
    }

    /** 2^65536 - 1 in three calls. */
    static DigitMill holdingTop() {
        DigitMill mill = typed("1");
        due("repeat(1, 65535)", mill.repeat(1, 65535), true);
        due("read(2)", mill.read(2), -1);
        return mill;
    }

    /** The TEXT OUT as far as one object can look at it: all of a short one, of a long one places all over it. */
    static void dueTextHereAndThere(String what, DigitMill mill, String want) {
        int length = want.length();
        int looks = Math.min(length, LOOKS);
        for (int look = 0; look < looks; look++) {
            int k = looks == length ? look : (int) ((long) look * (length - 1) / (looks - 1));
            due(what + ": characterAt(" + k + ")", mill.characterAt(k), want.charAt(k));
        }
        int[] none = {-1, length, length + 1, Integer.MIN_VALUE, Integer.MAX_VALUE};
        for (int k : none) {
            due(what + ": characterAt(" + k + ")", mill.characterAt(k), -1);
        }
    }

    /** The whole TEXT OUT, looked at with objects made alike. */
    static void dueText(String what, Supplier<DigitMill> made, String want) {
        for (int from = 0; from <= want.length(); from += LOOKS) {
            DigitMill mill = made.get();
            due(what + ": characterAt(-1)", mill.characterAt(-1), -1);
            for (int k = from; k < from + LOOKS && k <= want.length() + 1; k++) {
                due(what + ": characterAt(" + k + ")", mill.characterAt(k), k < want.length() ? want.charAt(k) : -1);
            }
        }
    }

    /** The whole NUMBER, looked at with objects made alike. */
    static void dueNumber(String what, Supplier<DigitMill> made, BigInteger want) {
        int words = (want.bitLength() + 31) / 32;
        for (int from = 0; from <= words; from += LOOKS) {
            DigitMill mill = made.get();
            due(what + ": bits()", mill.bits(), want.bitLength());
            for (int k = from; k < from + LOOKS && k <= words + 1; k++) {
                due(what + ": word(" + k + ")", mill.word(k), want.shiftRight(32 * k).intValue());
            }
        }
    }
}
