import java.math.BigInteger;

/** All that an object holds, as the document tells it. */
record State(BigInteger number, String in, String out, long value) {
    static final State NEW = new State(BigInteger.ZERO, "", "", 0);

    State withNumber(BigInteger next) {
        return new State(next, in, out, value);
    }

    State withNumber(long next) {
        return withNumber(BigInteger.valueOf(next));
    }

    State withIn(String next) {
        return new State(number, next, out, value);
    }

    State withOut(String next) {
        return new State(number, in, next, value);
    }

    State withValue(long next) {
        return new State(number, in, out, next);
    }
}
