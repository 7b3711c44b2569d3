/** Promise 3. */
public final class RepeatTest {
    public static void main(String[] args) {
        itsLastCharacters();
        noTime();
        moreCharactersThanThereAre();
        lessThanOneCharacter();
        lessThanNoTime();
        moreThan65536();
        moreThanAnIntCanCount();
        Checks.finish("RepeatTest");
    }

    private static String call(int m, int n) {
        return "repeat(" + m + ", " + n + ")";
    }

    private static void grows(Home home, int m, int n) {
        String in = home.state.in();
        String more = in.substring(in.length() - m).repeat(n);
        home.becomes(call(m, n), mill -> mill.repeat(m, n), home.state.withIn(in + more));
    }

    private static void refuses(Home home, int m, int n) {
        home.refuses(call(m, n), mill -> mill.repeat(m, n));
    }

    /** 'Appends to the TEXT IN n times what stands at its end, its last m characters' */
    private static void itsLastCharacters() {
        Home ten = Home.SMALL.typing("123456789a");
        for (int m = 1; m <= 10; m++) {
            for (int n = 0; n <= 5; n++) {
                grows(ten, m, n);
            }
        }
        Home.SMALL.becomes("repeat(1, 2)", mill -> mill.repeat(1, 2), Home.SMALL.state.withIn("1222"))
            .becomes("repeat(3, 1)", mill -> mill.repeat(3, 1), Home.SMALL.state.withIn("1222222"))
            .becomes("repeat(7, 2)", mill -> mill.repeat(7, 2), Home.SMALL.state.withIn("122222212222221222222"));
        Home.SMALL.typing("~-").becomes("repeat(1, 1)", mill -> mill.repeat(1, 1), Home.SMALL.state.withIn("~--"));
    }

    /** n may be 0, for 'n is below 0' alone is refused; m is held to its bounds also then */
    private static void noTime() {
        grows(Home.SMALL, 1, 0);
        grows(Home.SMALL, 2, 0);
        grows(Home.FULL, 1, 0);
        grows(Home.FULL, 65536, 0);
    }

    /** 'False, refused, when m is not 1 .. what the TEXT IN has': above it */
    private static void moreCharactersThanThereAre() {
        int[] lengths = {1, 2, 3, 8, 65535, 65536};
        for (int length : lengths) {
            Home home = Home.typed("1", 1, length - 1);
            int[] above = {length + 1, length + 2, 2 * length + 1, 65537, Integer.MAX_VALUE - 1, Integer.MAX_VALUE};
            for (int m : above) {
                refuses(home, m, 0);
                refuses(home, m, 1);
            }
            grows(home, length, 0);
            if (length <= 32768) {
                grows(home, length, 1);
            }
        }
        int[] ofNothing = {1, 2, 65536, Integer.MAX_VALUE};
        for (int m : ofNothing) {
            refuses(Home.FRESH, m, 0);
            refuses(Home.FRESH, m, 1);
        }
    }

    /** 'False, refused, when m is not 1 .. what the TEXT IN has': below 1 */
    private static void lessThanOneCharacter() {
        int[] below = {0, -1, -2, -3, -65536, Integer.MIN_VALUE + 1, Integer.MIN_VALUE};
        for (Home home : Home.ALL) {
            for (int m : below) {
                refuses(home, m, 0);
                refuses(home, m, 1);
            }
        }
        refuses(Home.SMALL, 0, 5);
        refuses(Home.SMALL, 0, Integer.MAX_VALUE);
        refuses(Home.SMALL, -1, -1);
        grows(Home.SMALL, 1, 1);
    }

    /** 'n is below 0' */
    private static void lessThanNoTime() {
        int[] below = {-1, -2, -65536, Integer.MIN_VALUE + 1, Integer.MIN_VALUE};
        for (int n : below) {
            refuses(Home.SMALL, 1, n);
            refuses(Home.SMALL, 2, n);
            refuses(Home.FULL, 1, n);
            refuses(Home.FULL, 65536, n);
        }
        refuses(Home.FRESH, 1, -1);
    }

    /** 'or there would be more than 65,536': as often as it goes, and once more */
    private static void moreThan65536() {
        for (int length = 1; length <= 9; length++) {
            Home home = Home.typed("110101001".substring(0, length), 1, 0);
            for (int m = 1; m <= length; m++) {
                int most = (65536 - length) / m;
                grows(home, m, most - 1);
                grows(home, m, most);
                refuses(home, m, most + 1);
            }
        }
        int[][] once = {{32767, 32767}, {32768, 32768}, {32769, 32767}, {65534, 2}, {65535, 1}};
        for (int[] o : once) {
            Home home = Home.typed("10", 1, o[0] - 2);
            grows(home, o[1], 1);
            refuses(home, o[1], 3);
        }
        refuses(Home.typed("10", 1, 32767), 32769, 1);
        refuses(Home.typed("10", 1, 65533), 2, 1);
        refuses(Home.FULL, 1, 1);
        refuses(Home.FULL, 65536, 1);
    }

    /** m times n, or the length and m times n, would wrap around to what has room, or to what is below 0 */
    private static void moreThanAnIntCanCount() {
        Home eight = Home.SMALL.typing("12345678");
        int[][] wrapped = {{1, Integer.MAX_VALUE}, {1, Integer.MAX_VALUE - 7}, {2, Integer.MAX_VALUE}, {2, 1 << 30},
            {3, 0x55555555}, {3, 0x55555556}, {4, 1 << 30}, {4, (1 << 30) + 1}, {5, 858993459}, {5, 858993460}, {6, 715827883},
            {7, 613566757}, {8, 1 << 29}, {8, 1 << 28}, {8, (1 << 29) + 1}, {8, Integer.MAX_VALUE}};
        for (int[] w : wrapped) {
            refuses(eight, w[0], w[1]);
        }
        int[] times = {65535, 65536, 65537, 131072, 1 << 30, Integer.MAX_VALUE};
        for (int n : times) {
            refuses(Home.FULL, 65536, n);
            refuses(Home.FULL, 32768, n);
        }
    }
}
