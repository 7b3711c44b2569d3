/**
 * Whole numbers of up to 65,536 bits, and numbers of 32 and 64 bits, read from digits and written as
 * digits in any radix from 2 to 36. All rows are made with the object; no call makes anything.
 */
public final class DigitMill {
    private static final int MOST_CHARACTERS = 65536;
    private static final int HIGHEST_CODE = 126;
    private static final int WORDS_OF_NUMBER = 2048;
    private static final int WORDS_OF_LONG = 2;
    private static final long LOW_32 = 0xffffffffL;
    /** A rest below it, moved up by 32 bits, is still no negative long, so that / divides it rightly. */
    private static final long HIGHEST_DIVISOR = 1L << 31;

    private static final int LOWEST_RADIX = 2;
    private static final int HIGHEST_RADIX = 36;
    /** As a digit's value: a digit of no radix. */
    private static final int NO_DIGIT = 36;

    private static final int READ = -1;
    private static final int READ_TOO_GREAT = -2;
    private static final int READ_REFUSED = -3;
    private static final int WRITE_REFUSED = -1;
    private static final int PARSED = 0;
    private static final int PARSE_NO_NUMBER = 1;
    private static final int PARSE_TOO_WIDE = 2;
    private static final int PARSE_REFUSED = 3;
    private static final int NO_CHARACTER = -1;

    private final TextIn textIn;
    private final TextOut textOut;
    private final Whole number;
    /** Where a result is made that may yet prove too great, and where a copy is divided away. */
    private final Whole spare;
    /** Where a square is made: it can't be made in the row of its own factor. */
    private final Whole square;
    /** A number of 64 bits without a sign, for show and parse. */
    private final Whole small;
    private long latestValue;

    public DigitMill() {
        textIn = new TextIn();
        textOut = new TextOut();
        number = new Whole(WORDS_OF_NUMBER);
        spare = new Whole(WORDS_OF_NUMBER);
        square = new Whole(WORDS_OF_NUMBER);
        small = new Whole(WORDS_OF_LONG);
        latestValue = 0;
    }

    public boolean type(long eight) {
        return textIn.appendBytes(eight);
    }

    public boolean repeat(int m, int n) {
        return textIn.appendEnd(m, n);
    }

    public int read(int radix) {
        if (!isRadix(radix)) {
            return READ_REFUSED;
        }
        int answer = readNumber(radix);
        textIn.clear();
        return answer;
    }

    public int write(int radix) {
        if (!isRadix(radix)) {
            return WRITE_REFUSED;
        }
        spare.becomeCopyOf(number);
        textOut.becomeDigitsOf(spare, radix);
        return textOut.size();
    }

    public boolean push(long bits) {
        return number.appendLong(bits);
    }

    public boolean power(int b, int e) {
        if (b < 0 || e < 0 || !raiseInSpare(b, e)) {
            return false;
        }
        number.becomeCopyOf(spare);
        return true;
    }

    public boolean add(int v) {
        return v < 0 ? number.decrease(-(long) v) : number.increase(v);
    }

    public int show(long v, int width, int radix, boolean signs) {
        if (!isWidth(width) || !isRadix(radix)) {
            return WRITE_REFUSED;
        }
        long shown = v;
        if (width == 32) {
            shown = signs ? (int) v : v & LOW_32;
        }
        boolean minus = signs && shown < 0;
        small.becomeLong(minus ? -shown : shown);
        textOut.becomeDigitsOf(small, radix);
        if (minus) {
            textOut.prepend('-');
        }
        return textOut.size();
    }

    public int parse(int width, int radix, boolean signs) {
        if (!isWidth(width) || !isRadix(radix)) {
            return PARSE_REFUSED;
        }
        int answer = parseValue(width, radix, signs);
        textIn.clear();
        return answer;
    }

    public long value() {
        return latestValue;
    }

    public int word(int k) {
        return number.wordAt(k);
    }

    public int bits() {
        return number.countBits();
    }

    public int characterAt(int k) {
        return textOut.codeAt(k);
    }

    public int typed() {
        return textIn.size();
    }

    private int readNumber(int radix) {
        int place = textIn.firstOther(0, radix);
        if (textIn.size() == 0 || place < textIn.size()) {
            return place;
        }
        if (!spare.becomeDigitsOf(textIn, 0, radix)) {
            return READ_TOO_GREAT;
        }
        number.becomeCopyOf(spare);
        return READ;
    }

    private int parseValue(int width, int radix, boolean signs) {
        int first = textIn.codeAt(0);
        boolean minus = signs && first == '-';
        int from = minus || first == '+' ? 1 : 0;
        if (from >= textIn.size() || textIn.firstOther(from, radix) < textIn.size()) {
            return PARSE_NO_NUMBER;
        }
        if (!small.becomeDigitsOf(textIn, from, radix) || !smallHasWidth(width, signs, minus)) {
            return PARSE_TOO_WIDE;
        }
        latestValue = minus ? -small.lowLong() : small.lowLong();
        return PARSED;
    }

    private boolean smallHasWidth(int width, boolean signs, boolean minus) {
        if (small.countBits() <= (signs ? width - 1 : width)) {
            return true;
        }
        // Below 0 there is one number more than above.
        return minus && small.lowLong() == 1L << (width - 1);
    }

    /** From the exponent's highest bit on: no power on the way is above the last one. */
    private boolean raiseInSpare(int b, int e) {
        if (b == 0) {
            spare.becomeLong(e == 0 ? 1 : 0);
            return true;
        }
        spare.becomeLong(1);
        for (int k = 31 - Integer.numberOfLeadingZeros(e); k >= 0; k--) {
            if (!square.becomeSquareOf(spare)) {
                return false;
            }
            spare.becomeCopyOf(square);
            if ((e >>> k & 1) == 1 && !spare.multiplyAndAdd(b, 0)) {
                return false;
            }
        }
        return true;
    }

    private static boolean isRadix(int radix) {
        return radix >= LOWEST_RADIX && radix <= HIGHEST_RADIX;
    }

    private static boolean isWidth(int width) {
        return width == 32 || width == 64;
    }

    private static int digitOf(int code) {
        if (code >= '0' && code <= '9') {
            return code - '0';
        }
        if (code >= 'a' && code <= 'z') {
            return code - 'a' + 10;
        }
        if (code >= 'A' && code <= 'Z') {
            return code - 'A' + 10;
        }
        return NO_DIGIT;
    }

    private static int codeOf(int digit) {
        return digit < 10 ? '0' + digit : 'a' + digit - 10;
    }

    /** The TEXT IN. */
    private static final class TextIn {
        private final byte[] row;
        private int length;

        private TextIn() {
            row = new byte[MOST_CHARACTERS];
            length = 0;
        }

        private int size() {
            return length;
        }

        private void clear() {
            length = 0;
        }

        private int codeAt(int k) {
            return k >= 0 && k < length ? row[k] : NO_CHARACTER;
        }

        private boolean appendBytes(long eight) {
            int more = 0;
            for (int shift = 56; shift >= 0; shift -= 8) {
                int code = (int) (eight >>> shift) & 0xff;
                if (code > HIGHEST_CODE) {
                    return false;
                }
                more += code == 0 ? 0 : 1;
            }
            if (more > row.length - length) {
                return false;
            }
            for (int shift = 56; shift >= 0; shift -= 8) {
                int code = (int) (eight >>> shift) & 0xff;
                if (code != 0) {
                    row[length] = (byte) code;
                    length++;
                }
            }
            return true;
        }

        private boolean appendEnd(int m, int n) {
            if (m < 1 || m > length || n < 0) {
                return false;
            }
            long more = (long) m * n;
            if (more > row.length - length) {
                return false;
            }
            int end = length + (int) more;
            for (int i = length; i < end; i++) {
                row[i] = row[i - m];
            }
            length = end;
            return true;
        }

        /** The place of the first character that is no digit, from a place on; the length when all are. */
        private int firstOther(int from, int radix) {
            for (int i = from; i < length; i++) {
                if (digitOf(codeAt(i)) >= radix) {
                    return i;
                }
            }
            return length;
        }
    }

    /** The TEXT OUT. It stands at the end of its row, for a number's digits come from the lowest on. */
    private static final class TextOut {
        private final byte[] row;
        private int start;

        private TextOut() {
            row = new byte[MOST_CHARACTERS];
            start = row.length;
        }

        private int size() {
            return row.length - start;
        }

        private int codeAt(int k) {
            return k >= 0 && k < size() ? row[start + k] : NO_CHARACTER;
        }

        private void prepend(int code) {
            if (start > 0) {
                start--;
                row[start] = (byte) code;
            }
        }

        /** Uses the whole up: it is 0 afterwards. The radix is from 2 to 36. */
        private void becomeDigitsOf(Whole whole, int radix) {
            // As many digits at a time as one division of all words can bring.
            long divisor = radix;
            int digits = 1;
            long most = HIGHEST_DIVISOR / radix;
            for (int k = 0; k < 32 && divisor <= most; k++) {
                divisor *= radix;
                digits++;
            }
            start = row.length;
            for (int k = 0; k < MOST_CHARACTERS && !whole.isZero(); k++) {
                long part = whole.divideTwiceBy(divisor);
                prependDigits(part, 2 * digits, radix, !whole.isZero());
            }
            if (size() == 0) {
                prepend('0');
            }
        }

        private void prependDigits(long part, int digits, int radix, boolean zerosInFront) {
            long rest = part;
            for (int k = 0; k < digits && (zerosInFront || rest > 0); k++) {
                prepend(codeOf((int) (rest % radix)));
                rest /= radix;
            }
        }
    }

    /** A whole number without a sign, of as many words as its row has; the highest one in use is not 0. */
    private static final class Whole {
        private final int[] words;
        private int used;

        /** Has at least the two words of a long. */
        private Whole(int most) {
            words = new int[Math.max(most, WORDS_OF_LONG)];
            used = 0;
        }

        private boolean isZero() {
            return used == 0;
        }

        private int wordAt(int k) {
            return k >= 0 && k < used ? words[k] : 0;
        }

        private int countBits() {
            return 32 * used - (used == 0 ? 0 : Integer.numberOfLeadingZeros(words[used - 1]));
        }

        private long lowLong() {
            return (long) wordAt(1) << 32 | (wordAt(0) & LOW_32);
        }

        private void becomeLong(long bits) {
            used = 0;
            appendLong(bits);
        }

        private void becomeCopyOf(Whole other) {
            used = Math.min(other.used, words.length);
            System.arraycopy(other.words, 0, words, 0, used);
        }

        /** False, and its value of no use, when the row is too short; the text from there on is all digits. */
        private boolean becomeDigitsOf(TextIn text, int from, int radix) {
            used = 0;
            long most = LOW_32 / radix;
            long factor = 1;
            long part = 0;
            for (int i = from; i < text.size(); i++) {
                factor *= radix;
                part = part * radix + digitOf(text.codeAt(i));
                // As many digits at a time as one multiplication of all words can take.
                if (factor > most || i == text.size() - 1) {
                    if (!multiplyAndAdd(factor, part)) {
                        return false;
                    }
                    factor = 1;
                    part = 0;
                }
            }
            return true;
        }

        /** False, and its value of no use, when the row is too short; both are below 2^32, the factor above 0. */
        private boolean multiplyAndAdd(long factor, long more) {
            long carry = more;
            for (int i = 0; i < used; i++) {
                long sum = (words[i] & LOW_32) * factor + carry;
                words[i] = (int) sum;
                carry = sum >>> 32;
            }
            return appendCarry(carry);
        }

        private boolean appendCarry(long carry) {
            if (carry == 0) {
                return true;
            }
            if (used >= words.length) {
                return false;
            }
            words[used] = (int) carry;
            used++;
            return true;
        }

        /**
         * Divides by the divisor twice in one go, for a word fetched once saves time; answers what is left over,
         * below the divisor's square. The divisor is from 2 to 2^31.
         */
        private long divideTwiceBy(long divisor) {
            long first = 0;
            long second = 0;
            for (int i = used - 1; i >= 0; i--) {
                long part = first << 32 | (words[i] & LOW_32);
                long quotient = part / divisor;
                first = part - quotient * divisor;
                part = second << 32 | quotient;
                quotient = part / divisor;
                second = part - quotient * divisor;
                words[i] = (int) quotient;
            }
            dropZeros();
            return second * divisor + first;
        }

        private void dropZeros() {
            while (used > 0 && words[used - 1] == 0) {
                used--;
            }
        }

        /** Becomes its 2^64-fold and the bits; false, and nothing is changed, when the row is too short. */
        private boolean appendLong(long bits) {
            if (used > words.length - WORDS_OF_LONG) {
                return false;
            }
            System.arraycopy(words, 0, words, WORDS_OF_LONG, used);
            words[0] = (int) bits;
            words[1] = (int) (bits >>> 32);
            used += WORDS_OF_LONG;
            dropZeros();
            return true;
        }

        /** By less than 2^32; false, and nothing is changed, when the row is too short. */
        private boolean increase(long by) {
            if (!hasRoomFor(by)) {
                return false;
            }
            long carry = by;
            for (int i = 0; i < used && carry != 0; i++) {
                long sum = (words[i] & LOW_32) + carry;
                words[i] = (int) sum;
                carry = sum >>> 32;
            }
            return appendCarry(carry);
        }

        private boolean hasRoomFor(long by) {
            if (used < words.length || (words[0] & LOW_32) + by <= LOW_32) {
                return true;
            }
            for (int i = 1; i < used; i++) {
                if (words[i] != -1) {
                    return true;
                }
            }
            return false;
        }

        /** By less than 2^32; false, and nothing is changed, when it is less than that. */
        private boolean decrease(long by) {
            if (used < 2 && (wordAt(0) & LOW_32) < by) {
                return false;
            }
            long borrowed = by;
            for (int i = 0; i < used && borrowed != 0; i++) {
                long left = (words[i] & LOW_32) - borrowed;
                words[i] = (int) left;
                borrowed = left < 0 ? 1 : 0;
            }
            dropZeros();
            return true;
        }

        /** False, and nothing is changed, when the row is too short. The root is another object. */
        private boolean becomeSquareOf(Whole root) {
            int n = root.used;
            if (n > words.length / 2) {
                return false;
            }
            for (int i = 0; i < 2 * n; i++) {
                words[i] = 0;
            }
            for (int i = 0; i < n; i++) {
                addProductsAbove(i, root.words, n);
            }
            doubleAndAddSquares(root.words, n);
            used = 2 * n;
            dropZeros();
            return true;
        }

        /** Word i times the words above it: each such product stands twice in the square, and is made once. */
        private void addProductsAbove(int i, int[] factors, int n) {
            long factor = factors[i] & LOW_32;
            if (factor == 0) {
                return;
            }
            long carry = 0;
            for (int j = i + 1; j < n; j++) {
                long sum = factor * (factors[j] & LOW_32) + (words[i + j] & LOW_32) + carry;
                words[i + j] = (int) sum;
                carry = sum >>> 32;
            }
            words[i + n] = (int) carry;
        }

        private void doubleAndAddSquares(int[] factors, int n) {
            long carry = 0;
            for (int i = 0; i < n; i++) {
                long own = (factors[i] & LOW_32) * (factors[i] & LOW_32);
                long low = 2 * (words[2 * i] & LOW_32) + (own & LOW_32) + carry;
                words[2 * i] = (int) low;
                long high = 2 * (words[2 * i + 1] & LOW_32) + (own >>> 32) + (low >>> 32);
                words[2 * i + 1] = (int) high;
                carry = high >>> 32;
            }
        }
    }
}
