import java.math.BigInteger;
import java.util.function.Predicate;
import java.util.function.Supplier;
import java.util.function.ToLongFunction;

/**
 * An object in a known state, from which a call is tried. It is made anew for each look, for a look is a call, an object
 * has but 512 of them, and the TEXT IN is seen only by using it up.
 */
final class Home {
    static final Home FRESH = new Home("new", DigitMill::new, State.NEW);
    static final Home SMALL = small();
    static final Home MIDDLE = middle();
    /** The greatest NUMBER, both texts as long as can be, and the lowest VALUE. */
    static final Home FULL = full();
    static final Home[] ALL = {FRESH, SMALL, MIDDLE, FULL};

    final String name;
    final Supplier<DigitMill> made;
    final State state;

    Home(String name, Supplier<DigitMill> made, State state) {
        this.name = name;
        this.made = made;
        this.state = state;
    }

    private static Home small() {
        return new Home("small", () -> {
            DigitMill mill = Checks.typed("-13");
            mill.parse(64, 10, true);
            mill.push(42);
            mill.show(-71, 32, 36, true);
            return Checks.typeAll(mill, "12");
        }, new State(BigInteger.valueOf(42), "12", "-1z", -13));
    }

    private static Home middle() {
        BigInteger number = BigInteger.valueOf(3).pow(200);
        return new Home("middle", () -> {
            DigitMill mill = Checks.typed("FFFFFFFF");
            mill.parse(32, 16, false);
            mill.power(3, 200);
            mill.write(7);
            return Checks.typeAll(mill, "00zZ9");
        }, new State(number, "00zZ9", number.toString(7), 0xffffffffL));
    }

    private static Home full() {
        State state = new State(Checks.TOP, "10010".repeat(13107) + "1", "1101001".repeat(9362) + "01", Long.MIN_VALUE);
        return new Home("full", () -> {
            DigitMill mill = Checks.typed("-9223372036854775808");
            mill.parse(64, 10, true);
            Checks.typeAll(mill, "1101001");
            mill.repeat(7, 9361);
            Checks.typeAll(mill, "01");
            mill.read(2);
            mill.write(2);
            mill.type('1');
            mill.repeat(1, 65535);
            mill.read(2);
            Checks.typeAll(mill, "10010");
            mill.repeat(5, 13106);
            return Checks.typeAll(mill, "1");
        }, state);
    }

    /** Small, but for the NUMBER, which is made by push alone. */
    static Home holding(BigInteger number) {
        return new Home("NUMBER " + number.toString(16) + " (16)", () -> {
            DigitMill mill = SMALL.made.get();
            mill.power(0, 1);
            return Checks.pushAll(mill, number);
        }, SMALL.state.withNumber(number));
    }

    static Home holding(long number) {
        return holding(BigInteger.valueOf(number));
    }

    /** Small, but for the NUMBER, a power of 2. */
    static Home holdingPowerOfTwo(int e) {
        return new Home("NUMBER 2^" + e, () -> {
            DigitMill mill = SMALL.made.get();
            mill.power(2, e);
            return mill;
        }, SMALL.state.withNumber(BigInteger.ONE.shiftLeft(e)));
    }

    /** Small, but for the TEXT IN: what is typed, and n times more its last m characters. */
    static Home typed(String text, int m, int n) {
        return SMALL.typing(text, m, n);
    }

    /** The TEXT IN is this text; all else is as here. */
    Home typing(String text) {
        return typing(text, 0, 0);
    }

    private Home typing(String text, int m, int n) {
        return new Home(name + ", TEXT IN " + text + " and " + n + " times its last " + m, () -> {
            DigitMill mill = Checks.typeAll(withoutTextIn(), text);
            if (n > 0) {
                Checks.due("repeat(" + m + ", " + n + ")", mill.repeat(m, n), true);
            }
            return mill;
        }, state.withIn(text + text.substring(text.length() - m).repeat(n)));
    }

    /** By a parse that says no number, or, where there is no room for ~, one that is too wide: the VALUE stays. */
    private DigitMill withoutTextIn() {
        DigitMill mill = made.get();
        mill.type('~');
        mill.parse(64, 2, false);
        return mill;
    }

    /** The same object after one call more. */
    Home then(String call, ToLongFunction<DigitMill> called, long answer, State next) {
        String line = name + ", " + call;
        return new Home(line, () -> {
            DigitMill mill = made.get();
            Checks.due(line, called.applyAsLong(mill), answer);
            return mill;
        }, next);
    }

    /** Calls, and looks at all that the object holds. */
    Home becomes(String call, ToLongFunction<DigitMill> called, long answer, State next) {
        return then(call, called, answer, next).look();
    }

    Home becomes(String call, Predicate<DigitMill> called, State next) {
        return becomes(call, mill -> called.test(mill) ? 1 : 0, 1, next);
    }

    /** 'A call that is refused changes nothing', nor does the same call again. */
    void refuses(String call, ToLongFunction<DigitMill> called, long answer) {
        then(call, called, answer, state).becomes("again", called, answer, state);
    }

    void refuses(String call, Predicate<DigitMill> called) {
        refuses(call, mill -> called.test(mill) ? 1 : 0, 0);
    }

    Home look() {
        Checks.dueNumber(name, made, state.number());
        DigitMill mill = made.get();
        Checks.due(name + ": typed()", mill.typed(), state.in().length());
        Checks.due(name + ": value()", mill.value(), state.value());
        Checks.dueTextHereAndThere(name, mill, state.out());
        lookAtTextIn();
        return this;
    }

    private void lookAtTextIn() {
        String in = state.in();
        int radix = in.length() > 1000 ? 2 : 36;
        int place = Model.firstOther(in, radix);
        int answer = in.isEmpty() ? 0 : place < 0 ? -1 : place;
        String call = "read(" + radix + ") to see the TEXT IN";
        Home read = then(call, mill -> mill.read(radix), answer, state);
        Checks.dueNumber(read.name, read.made, answer == -1 ? new BigInteger(in, radix) : state.number());
    }
}
