import java.math.BigInteger;

/** Promises 12, 13, 14 and 15: the looks, which change nothing. */
public final class LookTest {
    public static void main(String[] args) {
        wordsBelowZero();
        wordsUpToTheLastAndBeyond();
        theBitsOfEachWord();
        bitsOfZero();
        bitsUpToTheHighestOne();
        noCharacterBelowZero();
        charactersUpToTheLastAndBeyond();
        noCharacterOfAnEmptyText();
        typedFromNoneToAll();
        looksChangeNothing();
        Checks.finish("LookTest");
    }

    /** Promise 12: '0 when k is below 0' */
    private static void wordsBelowZero() {
        int[] below = {-1, -2, -31, -32, -33, -2047, -2048, -65536, Integer.MIN_VALUE + 1, Integer.MIN_VALUE};
        for (Home home : Home.ALL) {
            DigitMill mill = home.made.get();
            for (int k : below) {
                Checks.due(home.name + ": word(" + k + ")", mill.word(k), 0);
            }
            Checks.due(home.name + ": word(0)", mill.word(0), home.state.number().intValue());
        }
    }

    /** WORD k 'k from 0 on': there is none so high that it has no answer; the NUMBER's bits above its highest are 0 */
    private static void wordsUpToTheLastAndBeyond() {
        DigitMill full = Checks.holdingTop();
        int[] inside = {0, 1, 2, 1023, 1024, 2045, 2046, 2047};
        int[] beyond = {2048, 2049, 4095, 4096, 65535, 65536, 1 << 26, 1 << 27, 1 << 28, 1 << 30, Integer.MAX_VALUE - 1,
            Integer.MAX_VALUE};
        for (int k : inside) {
            Checks.due("greatest: word(" + k + ")", full.word(k), -1);
        }
        for (int k : beyond) {
            Checks.due("greatest: word(" + k + ")", full.word(k), 0);
        }
        // A number of fewer words after one of more: nothing of the old one shows.
        full.power(3, 2);
        Checks.due("9: word(0)", full.word(0), 9);
        for (int k : inside) {
            Checks.due("9: word(" + (k + 1) + ")", full.word(k + 1), 0);
        }
        for (int k : beyond) {
            Checks.due("9: word(" + k + ")", full.word(k), 0);
        }
    }

    /** 'WORD k of it, k from 0 on, is its bits 32 * k to 32 * k + 31 (bit 0 is the lowest)': each of the 65,536 bits */
    private static void theBitsOfEachWord() {
        int perObject = 120;
        for (int from = 0; from < 65536; from += perObject) {
            DigitMill mill = new DigitMill();
            for (int bit = from; bit < Math.min(from + perObject, 65536); bit++) {
                int k = bit / 32;
                mill.power(2, bit);
                Checks.due("2^" + bit + ": word(" + k + ")", mill.word(k), 1 << bit % 32);
                Checks.due("2^" + bit + ": word(" + (k - 1) + ")", mill.word(k - 1), 0);
                Checks.due("2^" + bit + ": bits()", mill.bits(), bit + 1);
            }
        }
    }

    /** Promise 13: '(0 for 0)' */
    private static void bitsOfZero() {
        Checks.due("new: bits()", new DigitMill().bits(), 0);
        for (Home home : Home.ALL) {
            DigitMill mill = home.made.get();
            mill.power(0, 1);
            Checks.due(home.name + ", power(0, 1): bits()", mill.bits(), 0);
            mill.power(1, 1);
            Checks.due(home.name + ", power(1, 1): bits()", mill.bits(), 1);
            mill.add(-1);
            Checks.due(home.name + ", power(1, 1), add(-1): bits()", mill.bits(), 0);
        }
    }

    /** Promise 13: 'How many bits the NUMBER has up to its highest 1': 2^e - 1, 2^e and 2^e + 1, also where a word ends */
    private static void bitsUpToTheHighestOne() {
        int[] ends = {0, 1, 2, 30, 31, 32, 33, 62, 63, 64, 65, 95, 96, 97, 1000, 32767, 32768, 65471, 65472, 65503, 65504, 65505,
            65534, 65535};
        for (int e : ends) {
            DigitMill mill = new DigitMill();
            mill.power(2, e);
            Checks.due("2^" + e + ": bits()", mill.bits(), e + 1);
            mill.add(-1);
            Checks.due("2^" + e + " - 1: bits()", mill.bits(), e);
            mill.add(2);
            Checks.due("2^" + e + " + 1: bits()", mill.bits(), e == 0 ? 2 : e + 1);
        }
        Checks.due("greatest: bits()", Checks.holdingTop().bits(), 65536);
        BigInteger odd = new BigInteger("123456789abcdef0123456789abcdef", 16);
        Checks.due("121 bits: bits()", Checks.pushAll(new DigitMill(), odd).bits(), 121);
    }

    /** Promise 14: '-1 when there is none': before the first */
    private static void noCharacterBelowZero() {
        int[] below = {-1, -2, -3, -65535, -65536, -65537, Integer.MIN_VALUE + 1, Integer.MIN_VALUE};
        for (Home home : Home.ALL) {
            DigitMill mill = home.made.get();
            for (int k : below) {
                Checks.due(home.name + ": characterAt(" + k + ")", mill.characterAt(k), -1);
            }
        }
    }

    /** Promise 14: '-1 when there is none': behind the last; of a text of each length that 2^e - 1 can have */
    private static void charactersUpToTheLastAndBeyond() {
        for (int e = 1; e <= 65536; e += e < 70 ? 1 : 6547) {
            DigitMill mill = Checks.typed("1");
            mill.repeat(1, e - 1);
            mill.read(2);
            Checks.due("write(2) of " + e + " ones", mill.write(2), e);
            Checks.due("characterAt(0)", mill.characterAt(0), '1');
            Checks.due("characterAt(" + (e - 1) + ")", mill.characterAt(e - 1), '1');
            int[] behind = {e, e + 1, e + 2, 65536, 65537, 65536 + e, 131072, Integer.MAX_VALUE - 1, Integer.MAX_VALUE};
            for (int k : behind) {
                Checks.due("of " + e + " characters: characterAt(" + k + ")", mill.characterAt(k), -1);
            }
        }
        DigitMill full = Checks.holdingTop();
        full.write(2);
        Checks.due("longest: characterAt(65534)", full.characterAt(65534), '1');
        Checks.due("longest: characterAt(65535)", full.characterAt(65535), '1');
        Checks.due("longest: characterAt(65536)", full.characterAt(65536), -1);
    }

    /** 'THE TEXT OUT is .. empty at first' */
    private static void noCharacterOfAnEmptyText() {
        int[] any = {0, 1, 2, 65535, 65536, Integer.MAX_VALUE, -1};
        DigitMill mill = new DigitMill();
        for (int k : any) {
            Checks.due("new: characterAt(" + k + ")", mill.characterAt(k), -1);
        }
        Checks.typeAll(mill, "12");
        mill.read(10);
        mill.push(5);
        for (int k : any) {
            Checks.due("before the first write: characterAt(" + k + ")", mill.characterAt(k), -1);
        }
    }

    /** Promise 15: 'How many characters the TEXT IN has', from none to 65,536 */
    private static void typedFromNoneToAll() {
        DigitMill mill = new DigitMill();
        Checks.due("new: typed()", mill.typed(), 0);
        int count = 0;
        for (int step = 0; step < 100; step++) {
            String text = "12345678".substring(0, step % 9);
            mill.type(Checks.eight(text));
            count += text.length();
            Checks.due("typed()", mill.typed(), count);
        }
        int[] counts = {1, 2, 127, 128, 255, 256, 32767, 32768, 65534, 65535, 65536};
        for (int n : counts) {
            DigitMill some = Checks.typed("1");
            some.repeat(1, n - 1);
            Checks.due("typed() of " + n, some.typed(), n);
        }
    }

    private static void looksChangeNothing() {
        int[] any = {-1, 0, 1, 2048, 65536, Integer.MAX_VALUE, Integer.MIN_VALUE};
        for (Home home : Home.ALL) {
            Home looked = new Home(home.name + ", after looks", () -> {
                DigitMill mill = home.made.get();
                for (int k : any) {
                    mill.word(k);
                    mill.characterAt(k);
                }
                mill.bits();
                mill.value();
                mill.typed();
                return mill;
            }, home.state);
            looked.look();
        }
    }
}
