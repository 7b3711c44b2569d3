import java.util.Random;

/** All promises at once: runs of 512 calls, each the same every time, compared with the model call by call. */
public final class RandomRunsTest {
    private static final int RUNS = 600;
    private static final int CALLS = 512;
    private static final int[] EDGES = {0, 1, -1, 2, -2, 31, 32, 33, 63, 64, 65, 2047, 2048, 65535, 65536, 65537,
        Integer.MAX_VALUE, Integer.MAX_VALUE - 1, Integer.MIN_VALUE, Integer.MIN_VALUE + 1};
    private static final long[] LONG_EDGES = {0, 1, -1, 0x7fffffffL, 0x80000000L, 0xffffffffL, 0x100000000L, -0x80000000L,
        -0x80000001L, Long.MAX_VALUE, Long.MIN_VALUE, 10, 36, 1000000000};

    private final Random random;
    private final DigitMill mill = new DigitMill();
    private final Model model = new Model();
    /** Most runs stay small, for there every call is quick; the others go to the limits. */
    private final boolean great;
    private final int homeRadix;
    private final int run;

    private RandomRunsTest(int run) {
        this.run = run;
        random = new Random(run * 7919L + 17);
        great = run % 8 == 0;
        homeRadix = 2 + random.nextInt(35);
    }

    public static void main(String[] args) {
        for (int run = 0; run < RUNS; run++) {
            RandomRunsTest test = new RandomRunsTest(run);
            for (int call = 0; call < CALLS; call++) {
                test.callOne();
            }
        }
        Checks.finish("RandomRunsTest");
    }

    private void due(String call, long got, long want) {
        Checks.due("run " + run + ": " + call, got, want);
    }

    private void due(String call, boolean got, boolean want) {
        Checks.due("run " + run + ": " + call, got, want);
    }

    private void callOne() {
        switch (random.nextInt(17)) {
            case 0, 1, 2 -> callType();
            case 3 -> callRepeat();
            case 4 -> callRead();
            case 5 -> callWrite();
            case 6 -> callPush();
            case 7 -> callPower();
            case 8 -> callAdd();
            case 9 -> callShow();
            case 10 -> callParse();
            case 11 -> due("value()", mill.value(), model.value);
            case 12 -> callWord();
            case 13 -> due("bits()", mill.bits(), model.number.bitLength());
            case 14, 15 -> callCharacterAt();
            default -> due("typed()", mill.typed(), model.in.length());
        }
    }

    private int anyInt() {
        return random.nextBoolean() ? EDGES[random.nextInt(EDGES.length)] : random.nextInt();
    }

    private long anyLong() {
        return switch (random.nextInt(4)) {
            case 0 -> LONG_EDGES[random.nextInt(LONG_EDGES.length)];
            case 1 -> random.nextInt();
            case 2 -> random.nextLong() >>> random.nextInt(64);
            default -> random.nextLong();
        };
    }

    private int anyRadix() {
        return switch (random.nextInt(12)) {
            case 0 -> 2 + random.nextInt(35);
            case 1 -> random.nextInt(40) - 1;
            case 2 -> random.nextInt(6) == 0 ? anyInt() : homeRadix;
            default -> homeRadix;
        };
    }

    private int anyWidth() {
        return random.nextInt(30) == 0 ? anyInt() : 32 << random.nextInt(2);
    }

    private void callType() {
        long eight = random.nextInt(20) == 0 ? anyLong() : Checks.eight(anyText());
        due("type(" + eight + ")", mill.type(eight), model.type(eight));
    }

    private String anyText() {
        StringBuilder text = new StringBuilder();
        if (model.in.isEmpty() && random.nextInt(4) == 0) {
            text.append(random.nextBoolean() ? '-' : '+');
        }
        int length = random.nextInt(9 - text.length());
        for (int k = 0; k < length; k++) {
            char digit = Character.forDigit(random.nextInt(homeRadix), homeRadix);
            text.append(random.nextInt(3) == 0 ? Character.toUpperCase(digit) : digit);
        }
        if (length > 0 && random.nextInt(25) == 0) {
            text.setCharAt(text.length() - 1, (char) random.nextInt(140));
        }
        return text.toString();
    }

    private void callRepeat() {
        int m = model.in.length() == 0 || random.nextInt(8) == 0 ? anyInt() : 1 + random.nextInt(model.in.length());
        int n = random.nextInt(4);
        if (random.nextInt(8) == 0) {
            n = anyInt();
        } else if (great && m > 0) {
            n = (65536 - model.in.length()) / m / (1 + random.nextInt(4)) + random.nextInt(2);
        }
        due("repeat(" + m + ", " + n + ")", mill.repeat(m, n), model.repeat(m, n));
    }

    private void callRead() {
        int radix = anyRadix();
        due("read(" + radix + ")", mill.read(radix), model.read(radix));
    }

    private void callWrite() {
        int radix = anyRadix();
        due("write(" + radix + ")", mill.write(radix), model.write(radix));
    }

    private void callPush() {
        long bits = anyLong();
        due("push(" + bits + ")", mill.push(bits), model.push(bits));
    }

    private void callPower() {
        if (random.nextInt(3) > 0) {
            return;
        }
        int b = random.nextInt(3) == 0 ? anyInt() : random.nextInt() >>> 1 + random.nextInt(31);
        int e = great && b > 1 ? (int) (65536 / (Math.log(b) / Math.log(2))) - 2 + random.nextInt(4) : random.nextInt(40);
        if (random.nextInt(10) == 0) {
            e = anyInt();
        }
        due("power(" + b + ", " + e + ")", mill.power(b, e), model.power(b, e));
    }

    private void callAdd() {
        int v = anyInt();
        due("add(" + v + ")", mill.add(v), model.add(v));
    }

    private void callShow() {
        long v = anyLong();
        int width = anyWidth();
        int radix = anyRadix();
        boolean signs = random.nextBoolean();
        due("show(" + v + ", " + width + ", " + radix + ", " + signs + ")", mill.show(v, width, radix, signs),
            model.show(v, width, radix, signs));
    }

    private void callParse() {
        int width = anyWidth();
        int radix = anyRadix();
        boolean signs = random.nextBoolean();
        due("parse(" + width + ", " + radix + ", " + signs + ")", mill.parse(width, radix, signs),
            model.parse(width, radix, signs));
    }

    private void callWord() {
        int k = random.nextInt(8) == 0 ? anyInt() : random.nextInt(model.number.bitLength() / 32 + 2);
        due("word(" + k + ")", mill.word(k), model.word(k));
    }

    private void callCharacterAt() {
        int k = random.nextInt(8) == 0 ? anyInt() : random.nextInt(model.out.length() + 2);
        due("characterAt(" + k + ")", mill.characterAt(k), model.characterAt(k));
    }
}
