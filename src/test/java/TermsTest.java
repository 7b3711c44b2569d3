import java.math.BigInteger;

/** 'What it is', the Terms, and promise 1. */
public final class TermsTest {
    public static void main(String[] args) {
        aNewObject();
        objectsHaveNothingInCommon();
        theLastOf512Calls();
        theNumberFromZeroToTheGreatest();
        theTextOutIsWhatWasWrittenLatest();
        Checks.finish("TermsTest");
    }

    /** Promise 1: 'The NUMBER is 0, both texts are empty', whichever call is the first */
    private static void aNewObject() {
        Home.FRESH.look();
        Checks.due("new: typed()", new DigitMill().typed(), 0);
        Checks.due("new: bits()", new DigitMill().bits(), 0);
        Checks.due("new: word(0)", new DigitMill().word(0), 0);
        Checks.due("new: word(2047)", new DigitMill().word(2047), 0);
        Checks.due("new: value()", new DigitMill().value(), 0);
        Checks.due("new: characterAt(0)", new DigitMill().characterAt(0), -1);
        Checks.due("new: read(10)", new DigitMill().read(10), 0);
        Checks.due("new: parse(32, 10, true)", new DigitMill().parse(32, 10, true), 1);
        Checks.due("new: repeat(1, 1)", new DigitMill().repeat(1, 1), false);
        Checks.due("new: add(-1)", new DigitMill().add(-1), false);
        Checks.due("new: add(1)", new DigitMill().add(1), true);
        Checks.due("new: push(0)", new DigitMill().push(0), true);
        Checks.due("new: write(2)", new DigitMill().write(2), 1);
    }

    private static void objectsHaveNothingInCommon() {
        DigitMill first = new DigitMill();
        DigitMill second = Home.FULL.made.get();
        DigitMill third = new DigitMill();
        DigitMill[] empty = {first, third};
        for (DigitMill mill : empty) {
            Checks.due("beside a full one: bits()", mill.bits(), 0);
            Checks.due("beside a full one: typed()", mill.typed(), 0);
            Checks.due("beside a full one: value()", mill.value(), 0);
            Checks.due("beside a full one: characterAt(0)", mill.characterAt(0), -1);
        }
        first.push(5);
        first.write(10);
        Checks.due("the full one: bits()", second.bits(), 65536);
        Checks.due("the full one: characterAt(65535)", second.characterAt(65535), '1');
    }

    /** 'An object is used for at most 512 calls after it has been made': each call may be the last */
    private static void theLastOf512Calls() {
        Checks.due("512th: add(1)", after511Adds().add(1), true);
        Checks.due("512th: word(0)", after511Adds().word(0), 511);
        Checks.due("512th: bits()", after511Adds().bits(), 9);
        Checks.due("512th: write(10)", after511Adds().write(10), 3);
        Checks.due("512th: push(1)", after511Adds().push(1), true);
        Checks.due("512th: power(2, 65535)", after511Adds().power(2, 65535), true);
        Checks.due("512th: show", after511Adds().show(-1, 64, 2, false), 64);
        Checks.due("512th: type 5", after511Adds().type('5'), true);
        Checks.due("512th: repeat(1, 0)", after511Adds().repeat(1, 0), false);
        Checks.due("512th: parse(32, 10, true)", after511Adds().parse(32, 10, true), 1);
        Checks.due("512th: value()", after511Adds().value(), 0);
        Checks.due("512th: characterAt(0)", after511Adds().characterAt(0), -1);
        DigitMill pushed = new DigitMill();
        for (int k = 0; k < 511; k++) {
            Checks.due("push(-1)", pushed.push(-1), true);
        }
        Checks.due("512th: word(1021)", pushed.word(1021), -1);
        DigitMill typed = new DigitMill();
        for (int k = 0; k < 511; k++) {
            Checks.due("type 12345678", typed.type(0x3132333435363738L), true);
        }
        Checks.due("512th: typed()", typed.typed(), 511 * 8);
        DigitMill read = new DigitMill();
        for (int k = 0; k < 511; k++) {
            Checks.due("type zzzzzzzz", read.type(0x7a7a7a7a7a7a7a7aL), true);
        }
        Checks.due("512th: read(36)", read.read(36), -1);
    }

    private static DigitMill after511Adds() {
        DigitMill mill = new DigitMill();
        for (int k = 0; k < 511; k++) {
            mill.add(1);
        }
        return mill;
    }

    /** 'THE NUMBER is from 0 to 2^65536 - 1': each call that makes a NUMBER can make both ends, but for power and push */
    private static void theNumberFromZeroToTheGreatest() {
        State zero = Home.SMALL.state.withIn("").withNumber(0);
        Home full = Home.typed("1", 1, 65535).becomes("read(2)", mill -> mill.read(2), -1, zero.withNumber(Checks.TOP));
        Home less = full.becomes("add(-1)", mill -> mill.add(-1), zero.withNumber(Checks.TOP.subtract(BigInteger.ONE)));
        Home again = less.becomes("add(1)", mill -> mill.add(1), zero.withNumber(Checks.TOP));
        again.refuses("add(1)", mill -> mill.add(1));
        again.refuses("push(0)", mill -> mill.push(0));
        again.becomes("power(0, 1)", mill -> mill.power(0, 1), zero)
            .refuses("add(-1)", mill -> mill.add(-1));
        Home one = Home.FRESH.becomes("add(1)", mill -> mill.add(1), State.NEW.withNumber(1));
        one.becomes("add(-1)", mill -> mill.add(-1), State.NEW);
        one.refuses("add(-2)", mill -> mill.add(-2));
    }

    /** 'THE TEXT OUT is what was written latest, empty at first': by write or by show, until the next good one */
    private static void theTextOutIsWhatWasWrittenLatest() {
        Home.SMALL.becomes("write(2)", mill -> mill.write(2), 6, Home.SMALL.state.withOut("101010"))
            .becomes("show(-5, 32, 10, true)", mill -> mill.show(-5, 32, 10, true), 2, Home.SMALL.state.withOut("-5"))
            .becomes("write(37)", mill -> mill.write(37), -1, Home.SMALL.state.withOut("-5"))
            .becomes("show(1, 16, 10, true)", mill -> mill.show(1, 16, 10, true), -1, Home.SMALL.state.withOut("-5"))
            .becomes("add(1)", mill -> mill.add(1), Home.SMALL.state.withOut("-5").withNumber(43))
            .becomes("write(10)", mill -> mill.write(10), 2, Home.SMALL.state.withOut("43").withNumber(43));
    }
}
