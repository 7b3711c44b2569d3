import java.math.BigInteger;
import java.util.function.Supplier;

/** What the tests share. A test's main ends with finish(), which exits with 1 if an answer was wrong. */
final class Checks {
    /** An object answers 512 calls: longer looks are shared out among objects made alike. */
    private static final int LOOKS = 480;
    private static final int MOST_PRINTED = 50;

    static final BigInteger TOP = BigInteger.ONE.shiftLeft(65536).subtract(BigInteger.ONE);

    private static int right = 0;
    private static int wrong = 0;

    private Checks() {
    }

    static void due(String call, long got, long want) {
        if (got == want) {
            right++;
            return;
        }
        wrong++;
        if (wrong <= MOST_PRINTED) {
            System.out.println(call + " answered " + got + ", due is " + want);
        }
    }

    static void due(String call, boolean got, boolean want) {
        due(call, got ? 1L : 0L, want ? 1L : 0L);
    }

    static void finish(String test) {
        System.out.println(test + ": " + right + " answers as due, " + wrong + " not");
        if (wrong != 0 || right == 0) {
            System.exit(1);
        }
    }

    /** Types a text of any length by as few calls as it can. */
    static DigitMill typeAll(DigitMill mill, String text) {
        for (int from = 0; from < text.length(); from += 8) {
            due("type of a part", mill.type(eight(text.substring(from, Math.min(from + 8, text.length())))), true);
        }
        return mill;
    }

    /** The bytes of up to eight characters, the first one the highest that is not 0. */
    static long eight(String text) {
        long bytes = 0;
        for (int i = 0; i < text.length(); i++) {
            bytes = bytes << 8 | text.charAt(i);
        }
        return bytes;
    }

    static DigitMill typed(String text) {
        return typeAll(new DigitMill(), text);
    }

    /** A new object whose NUMBER is this one, made by push alone: one of few bits, for a push is a call. */
    static DigitMill holding(BigInteger number) {
        DigitMill mill = new DigitMill();
        int longs = (number.bitLength() + 63) / 64;
        for (int k = longs - 1; k >= 0; k--) {
            due("push", mill.push(number.shiftRight(64 * k).longValue()), true);
        }
        return mill;
    }

    /** 2^65536 - 1 in three calls. */
    static DigitMill holdingTop() {
        DigitMill mill = typed("1");
        due("repeat(1, 65535)", mill.repeat(1, 65535), true);
        due("read(2)", mill.read(2), -1);
        return mill;
    }

    /** The whole TEXT OUT, looked at with objects made alike. */
    static void dueText(String what, Supplier<DigitMill> made, String want) {
        for (int from = 0; from <= want.length(); from += LOOKS) {
            DigitMill mill = made.get();
            due(what + ": characterAt(-1)", mill.characterAt(-1), -1);
            for (int k = from; k < from + LOOKS && k <= want.length() + 1; k++) {
                due(what + ": characterAt(" + k + ")", mill.characterAt(k), k < want.length() ? want.charAt(k) : -1);
            }
        }
    }

    /** The whole NUMBER, looked at with objects made alike. */
    static void dueNumber(String what, Supplier<DigitMill> made, BigInteger want) {
        int words = (want.bitLength() + 31) / 32;
        for (int from = 0; from <= words; from += LOOKS) {
            DigitMill mill = made.get();
            due(what + ": bits()", mill.bits(), want.bitLength());
            for (int k = from; k < from + LOOKS && k <= words + 1; k++) {
                due(what + ": word(" + k + ")", mill.word(k), want.shiftRight(32 * k).intValue());
            }
        }
    }
}
