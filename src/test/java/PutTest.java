/** Promise 2: put. */
public final class PutTest {
    private static final Checks CHECKS = new Checks("PutTest");

    public static void main(String[] args) {
        countsOfBytes();
        charactersAllowed();
        nothingIsChangedByAFalseOne();
        room();
        CHECKS.end();
    }

    private static void countsOfBytes() {
        CHECKS.due("n 0", CHECKS.store().put('a', 0), false);
        CHECKS.due("n -1", CHECKS.store().put('a', -1), false);
        CHECKS.due("n 5", CHECKS.store().put(0x61616161, 5), false);
        CHECKS.due("n far below", CHECKS.store().put(0x61616161, Integer.MIN_VALUE), false);
        CHECKS.due("n far above", CHECKS.store().put(0x61616161, Integer.MAX_VALUE), false);
        highestFirst();
    }

    private static void highestFirst() {
        CHECKS.anew();
        // The bytes above the n lowest are not looked at.
        CHECKS.due("1 byte", CHECKS.store().put(0xff00007b, 1), true);
        CHECKS.due("2 bytes", CHECKS.store().put(0x80ff226e, 2), true);
        CHECKS.due("3 bytes", CHECKS.store().put(0x00616d65, 3), true);
        CHECKS.due("4 bytes", CHECKS.store().put(0x223a2278, 4), true);
        CHECKS.due("2 bytes", CHECKS.store().put(0x227d, 2), true);
        CHECKS.due("create", CHECKS.store().create(), 1);
        CHECKS.is(1, 1, "\"name\":\"x\"");
    }

    private static void charactersAllowed() {
        for (int c = 0; c < 256; c++) {
            CHECKS.anew();
            boolean allowed = c == 10 || c >= 32 && c <= 126;
            CHECKS.due("put of " + c, CHECKS.store().put(c, 1), allowed);
            CHECKS.due("put of ahead " + c, CHECKS.store().put(c << 24 | 0x616161, 4), allowed);
            CHECKS.due("put of within " + c, CHECKS.store().put(c << 8 | 0x610061, 3), allowed);
        }
    }

    private static void nothingIsChangedByAFalseOne() {
        CHECKS.anew();
        CHECKS.say("{\"name\":");
        CHECKS.due("a wrong last byte", CHECKS.store().put(0x2261227f, 4), false);
        CHECKS.due("a wrong first byte", CHECKS.store().put(0x09612278, 4), false);
        CHECKS.due("a wrong n", CHECKS.store().put(0x61, 0), false);
        CHECKS.creates("\"b\"}", 1);
        CHECKS.is(1, 1, "\"name\":\"b\"");
    }

    private static void room() {
        CHECKS.anew();
        CHECKS.say("{\"name\":\"a\"" + " ".repeat(106));
        CHECKS.due("4 where 3 find room", CHECKS.store().put(0x20202020, 4), false);
        CHECKS.due("3 where 3 find room", CHECKS.store().put(0x20207d, 3), true);
        for (int n = 1; n <= 4; n++) {
            CHECKS.due("the 121st", CHECKS.store().put(0x20202020, n), false);
        }
        CHECKS.due("create of 120", CHECKS.store().create(), 1);
        CHECKS.say(" ".repeat(120));
        CHECKS.due("the 121st", CHECKS.store().put(' ', 1), false);
        CHECKS.due("query of 120 spaces", CHECKS.store().query(0, false, 1, 9), 1);
        CHECKS.due("room again", CHECKS.store().put(' ', 1), true);
    }
}
