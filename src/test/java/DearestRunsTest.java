import java.lang.management.ManagementFactory;
import java.util.function.ObjIntConsumer;
import java.util.function.Supplier;

/** Rules 7, 9 and 12 of the language: some 512 of the dearest calls end, answer rightly and make nothing. */
public final class DearestRunsTest {
    private static final int CALLS = 508;
    /** Less than one object a call. */
    private static final long FEW_BYTES = 16 * CALLS / 3;

    public static void main(String[] args) {
        run("write(36)", Checks::holdingTop, CALLS, (mill, k) -> Checks.due("write(36)", mill.write(36), 12677));
        run("write(10)", Checks::holdingTop, CALLS, (mill, k) -> Checks.due("write(10)", mill.write(10), 19729));
        run("power", DigitMill::new, CALLS, (mill, k) -> Checks.due("power", mill.power(3, 41348), true));
        run("power refused", DigitMill::new, CALLS, (mill, k) -> Checks.due("power", mill.power(3, 41349), false));
        run("power of 1", DigitMill::new, CALLS,
            (mill, k) -> Checks.due("power", mill.power(1, Integer.MAX_VALUE), true));
        run("read(36)", DigitMill::new, CALLS / 3, (mill, k) -> readMany(mill, 'z', 12676, 36, -1));
        run("read(10)", DigitMill::new, CALLS / 3, (mill, k) -> readMany(mill, '9', 19728, 10, -1));
        run("read too great", DigitMill::new, CALLS / 3, (mill, k) -> readMany(mill, 'z', 65536, 36, -2));
        run("parse", DigitMill::new, CALLS / 3, DearestRunsTest::parseMany);
        run("add across a power", DearestRunsTest::holdingPower, CALLS,
            (mill, k) -> Checks.due("add", mill.add(k % 2 == 0 ? -1 : 1), true));
        run("add refused", Checks::holdingTop, CALLS, (mill, k) -> Checks.due("add", mill.add(1), false));
        run("push", DigitMill::new, CALLS, (mill, k) -> Checks.due("push", mill.push(-1), true));
        run("show", DigitMill::new, CALLS, (mill, k) -> Checks.due("show", mill.show(Long.MIN_VALUE, 64, 2, true), 65));
        Checks.finish("DearestRunsTest");
    }

    private static void run(String name, Supplier<DigitMill> made, int times, ObjIntConsumer<DigitMill> calls) {
        // The first call of a lambda makes what the library needs for it; that is not the class's.
        calls.accept(made.get(), 0);
        DigitMill mill = made.get();
        long before = madeBytes();
        for (int k = 0; k < times; k++) {
            calls.accept(mill, k);
        }
        long bytes = madeBytes() - before;
        Checks.due(name + " made " + bytes + " bytes: few", bytes < FEW_BYTES, true);
    }

    private static long madeBytes() {
        com.sun.management.ThreadMXBean threads = (com.sun.management.ThreadMXBean) ManagementFactory.getThreadMXBean();
        return threads.getThreadAllocatedBytes(Thread.currentThread().getId());
    }

    private static DigitMill holdingPower() {
        DigitMill mill = new DigitMill();
        mill.power(2, 65535);
        return mill;
    }

    private static void readMany(DigitMill mill, char digit, int count, int radix, int want) {
        mill.type(digit);
        mill.repeat(1, count - 1);
        Checks.due("read of many digits", mill.read(radix), want);
    }

    private static void parseMany(DigitMill mill, int k) {
        mill.type('9');
        mill.repeat(1, 65535);
        Checks.due("parse of many digits", mill.parse(64, 10, false), 2);
    }
}
