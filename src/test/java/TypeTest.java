/** Promise 2. */
public final class TypeTest {
    public static void main(String[] args) {
        fromTheHighestByteToTheLowest();
        zerosLeftOut();
        noByteButZeros();
        everyByteUpTo126();
        everyByteAbove126();
        moreThan65536();
        zerosNeedNoRoom();
        roomAgainWhenTheTextInIsEmpty();
        Checks.finish("TypeTest");
    }

    /** 'Appends to the TEXT IN the characters that are the bytes of eight, from the highest to the lowest' */
    private static void fromTheHighestByteToTheLowest() {
        Home[] homes = {Home.FRESH, Home.SMALL, Home.MIDDLE};
        for (Home home : homes) {
            String in = home.state.in();
            home.becomes("type 12345678", mill -> mill.type(0x3132333435363738L), home.state.withIn(in + "12345678"))
                .becomes("type 9", mill -> mill.type('9'), home.state.withIn(in + "123456789"))
                .becomes("type azAZ", mill -> mill.type(0x617a415aL), home.state.withIn(in + "123456789azAZ"));
        }
    }

    /** 'zeros left out': in front, behind, between, in each way that eight bytes can have them */
    private static void zerosLeftOut() {
        for (int mask = 0; mask < 256; mask++) {
            long eight = 0;
            StringBuilder text = new StringBuilder();
            for (int k = 0; k < 8; k++) {
                boolean zero = (mask >> k & 1) == 1;
                eight = eight << 8 | (zero ? 0 : '1' + k);
                text.append(zero ? "" : (char) ('1' + k));
            }
            long bytes = eight;
            Home.FRESH.becomes("type(" + bytes + ")", mill -> mill.type(bytes), State.NEW.withIn(text.toString()));
        }
    }

    private static void noByteButZeros() {
        for (Home home : Home.ALL) {
            home.becomes("type(0)", mill -> mill.type(0), home.state);
        }
    }

    /** 'False, refused, when a byte is above 126': none of these is */
    private static void everyByteUpTo126() {
        for (int code = 1; code <= 126; code++) {
            for (int place = 0; place < 8; place++) {
                long eight = (long) code << 8 * place;
                Home.FRESH.becomes("type(" + eight + ")", mill -> mill.type(eight), State.NEW.withIn("" + (char) code));
            }
        }
        Home.FRESH.becomes("type of eight 126", mill -> mill.type(0x7e7e7e7e7e7e7e7eL), State.NEW.withIn("~~~~~~~~"));
    }

    /** 'False, refused, when a byte is above 126', in each place, alone and among good ones */
    private static void everyByteAbove126() {
        for (int code = 127; code <= 255; code++) {
            for (int place = 0; place < 8; place++) {
                long alone = (long) code << 8 * place;
                long others = 0x3132333435363738L & ~(255L << 8 * place);
                Home.FRESH.refuses("type(" + alone + ")", mill -> mill.type(alone));
                Home.SMALL.refuses("type(" + (others | alone) + ")", mill -> mill.type(others | alone));
            }
        }
        Home.SMALL.refuses("type(-1)", mill -> mill.type(-1));
        Home.SMALL.refuses("type(MIN_VALUE)", mill -> mill.type(Long.MIN_VALUE));
        Home.SMALL.refuses("type of eight 127", mill -> mill.type(0x7f7f7f7f7f7f7f7fL));
    }

    /** 'or there would be more than 65,536': from eight below the limit on, with nothing to eight characters */
    private static void moreThan65536() {
        for (int has = 65528; has <= 65536; has++) {
            Home home = Home.typed("1", 1, has - 1);
            for (int count = 0; count <= 8; count++) {
                String more = "01001010".substring(0, count);
                if (has + count <= 65536) {
                    home.becomes("type " + more, mill -> mill.type(Checks.eight(more)), home.state.withIn(home.state.in() + more));
                } else {
                    home.refuses("type " + more, mill -> mill.type(Checks.eight(more)));
                }
            }
        }
        Home.FULL.refuses("type 1", mill -> mill.type('1'));
        Home.FULL.refuses("type of 127", mill -> mill.type(127));
    }

    private static void zerosNeedNoRoom() {
        Home oneHasRoom = Home.typed("1", 1, 65534);
        State full = oneHasRoom.state.withIn("1".repeat(65536));
        for (int place = 0; place < 8; place++) {
            long eight = (long) '1' << 8 * place;
            oneHasRoom.becomes("type(" + eight + ")", mill -> mill.type(eight), full);
        }
        oneHasRoom.refuses("type of 1 and 1 with zeros", mill -> mill.type(0x3100000000000031L));
    }

    private static void roomAgainWhenTheTextInIsEmpty() {
        State empty = Home.FULL.state.withIn("");
        Home.FULL.then("parse(32, 2, true)", mill -> mill.parse(32, 2, true), 2, empty)
            .becomes("type 12345678", mill -> mill.type(0x3132333435363738L), empty.withIn("12345678"));
    }
}
