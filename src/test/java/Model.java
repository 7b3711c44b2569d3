import java.math.BigInteger;

/** The document told over again with the Java library, as plainly as can be, to compare with. */
final class Model {
    BigInteger number = BigInteger.ZERO;
    String in = "";
    String out = "";
    long value = 0;

    boolean type(long eight) {
        StringBuilder more = new StringBuilder();
        for (int shift = 56; shift >= 0; shift -= 8) {
            char c = (char) (eight >>> shift & 255);
            if (c > 126) {
                return false;
            }
            if (c != 0) {
                more.append(c);
            }
        }
        return append(more.toString());
    }

    private boolean append(String more) {
        if (in.length() + more.length() > 65536) {
            return false;
        }
        in += more;
        return true;
    }

    boolean repeat(int m, int n) {
        if (m < 1 || m > in.length() || n < 0 || in.length() + (long) m * n > 65536) {
            return false;
        }
        return append(in.substring(in.length() - m).repeat(n));
    }

    int read(int radix) {
        if (radix < 2 || radix > 36) {
            return -3;
        }
        String text = in;
        in = "";
        int place = firstOther(text, radix);
        if (place >= 0) {
            return place;
        }
        if (text.isEmpty()) {
            return 0;
        }
        BigInteger read = new BigInteger(text, radix);
        if (read.compareTo(Checks.TOP) > 0) {
            return -2;
        }
        number = read;
        return -1;
    }

    /** -1 when all are digits. */
    static int firstOther(String text, int radix) {
        for (int i = 0; i < text.length(); i++) {
            int digit = Checks.DIGITS.indexOf(Character.toLowerCase(text.charAt(i)));
            if (digit < 0 || digit >= radix) {
                return i;
            }
        }
        return -1;
    }

    int write(int radix) {
        if (radix < 2 || radix > 36) {
            return -1;
        }
        out = number.toString(radix);
        return out.length();
    }

    private boolean become(BigInteger next) {
        if (next.signum() < 0 || next.compareTo(Checks.TOP) > 0) {
            return false;
        }
        number = next;
        return true;
    }

    boolean push(long bits) {
        return become(number.shiftLeft(64).add(new BigInteger(Long.toUnsignedString(bits))));
    }

    boolean power(int b, int e) {
        if (b < 0 || e < 0) {
            return false;
        }
        if (b < 2) {
            return become(BigInteger.valueOf(e == 0 ? 1 : b));
        }
        return e < 65536 && (long) e * (31 - Integer.numberOfLeadingZeros(b)) < 65536 && become(BigInteger.valueOf(b).pow(e));
    }

    boolean add(int v) {
        return become(number.add(BigInteger.valueOf(v)));
    }

    int show(long v, int width, int radix, boolean signs) {
        if (width != 32 && width != 64 || radix < 2 || radix > 36) {
            return -1;
        }
        if (width == 32) {
            out = signs ? Integer.toString((int) v, radix) : Integer.toUnsignedString((int) v, radix);
        } else {
            out = signs ? Long.toString(v, radix) : Long.toUnsignedString(v, radix);
        }
        return out.length();
    }

    int parse(int width, int radix, boolean signs) {
        if (width != 32 && width != 64 || radix < 2 || radix > 36) {
            return 3;
        }
        String text = in;
        in = "";
        boolean minus = signs && text.startsWith("-");
        String digits = minus || text.startsWith("+") ? text.substring(1) : text;
        if (digits.isEmpty() || firstOther(digits, radix) >= 0) {
            return 1;
        }
        BigInteger read = new BigInteger(digits, radix);
        read = minus ? read.negate() : read;
        BigInteger half = BigInteger.ONE.shiftLeft(width - 1);
        BigInteger lowest = signs ? half.negate() : BigInteger.ZERO;
        BigInteger highest = (signs ? half : half.shiftLeft(1)).subtract(BigInteger.ONE);
        if (read.compareTo(lowest) < 0 || read.compareTo(highest) > 0) {
            return 2;
        }
        value = read.longValue();
        return 0;
    }

    int word(int k) {
        return k < 0 || k > 2047 ? 0 : number.shiftRight(32 * k).intValue();
    }

    int characterAt(int k) {
        return k < 0 || k >= out.length() ? -1 : out.charAt(k);
    }
}
