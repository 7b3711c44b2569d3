/** What show and parse refuse alike. */
final class WidthAndRadix {
    private static final Home[] HOMES = {Home.FRESH, Home.SMALL, Home.MIDDLE, Home.SMALL.typing("x")};

    private WidthAndRadix() {
    }

    /** A call with this width and radix, which must be refused. */
    interface Refusal {
        void due(Home home, int width, int radix);
    }

    static void eachWrongWidth(Refusal refusal) {
        int[] radixes = {2, 10, 32, 36};
        for (int width : Checks.NO_WIDTHS) {
            for (Home home : HOMES) {
                for (int radix : radixes) {
                    refusal.due(home, width, radix);
                }
            }
        }
        int[] beside = {31, 33, 63, 65};
        for (int width : beside) {
            refusal.due(Home.FULL, width, 2);
        }
    }

    static void eachWrongRadix(Refusal refusal) {
        int[] widths = {32, 64, 33};
        for (int radix : Checks.NO_RADIXES) {
            for (Home home : HOMES) {
                for (int width : widths) {
                    refusal.due(home, width, radix);
                }
            }
        }
        int[] beside = {1, 37};
        for (int radix : beside) {
            refusal.due(Home.FULL, 32, radix);
            refusal.due(Home.FULL, 64, radix);
        }
    }
}
