/** Promises 1 to 4: a new object, feed, cut, tape. */
public final class TapeTest {
    private static final Due due = new Due("TapeTest");

    public static void main(String[] args) {
        newObject();
        feed();
        feedTillFull();
        cut();
        tape();
        due.end();
    }

    private static void newObject() {
        Shelf x = new Shelf();
        due.is("new: tape(0)", x.tape(0), BitAlmanac.NONE);
        due.is("new: cut(0)", x.cut(0), 0);
        due.is("new: cut(1)", x.cut(1), BitAlmanac.BAD);
        for (int p = 0; p < 10; p++) {
            due.is("new: kind(" + p + ")", x.kind(p), 0);
        }
        due.is("new: status()", x.status(), 0);
        due.is("new: witnessed()", x.witnessed(), 0);
        Shelf y = new Shelf();
        y.feed(1, 1);
        y.draft(0);
        due.is("another object's tape", x.tape(0), BitAlmanac.NONE);
        due.is("another object's place", x.kind(0), 0);
    }

    private static void feed() {
        Shelf x = new Shelf();
        due.is("feed(0x010203, 2)", x.feed(0x010203L, 2), 2);
        due.is("its first byte", x.tape(0), 2);
        due.is("its second byte", x.tape(1), 3);
        due.is("feed(-2, 8)", x.feed(-2L, 8), 10);
        due.is("the highest byte of -2", x.tape(2), 255);
        due.is("the lowest byte of -2", x.tape(9), 254);
        due.is("feed(0x8000000000000001, 8)", x.feed(0x8000000000000001L, 8), 18);
        due.is("its highest byte", x.tape(10), 128);
        due.is("its lowest byte", x.tape(17), 1);
        due.is("feed(0, 1)", x.feed(0L, 1), 19);
        due.is("a byte 0", x.tape(18), 0);
        due.is("feed(1, 0)", x.feed(1, 0), BitAlmanac.BAD);
        due.is("feed(1, 9)", x.feed(1, 9), BitAlmanac.BAD);
        due.is("feed(1, -1)", x.feed(1, -1), BitAlmanac.BAD);
        due.is("feed(1, least)", x.feed(1, Integer.MIN_VALUE), BitAlmanac.BAD);
        due.is("feed(1, most)", x.feed(1, Integer.MAX_VALUE), BitAlmanac.BAD);
        due.is("nothing came of those", x.tape(19), BitAlmanac.NONE);
    }

    private static void feedTillFull() {
        Shelf x = new Shelf();
        for (int i = 1; i <= 124; i++) {
            due.is("feed 8 bytes, time " + i, x.feed(i, 8), 8 * i);
        }
        due.is("feed 7 bytes more", x.feed(-1, 7), 999);
        due.is("feed 2 bytes on 999", x.feed(-1, 2), BitAlmanac.FULL);
        due.is("that changed nothing", x.tape(999), BitAlmanac.NONE);
        due.is("feed 9 bytes on 999", x.feed(-1, 9), BitAlmanac.BAD);
        due.is("feed the last byte", x.feed(7, 1), 1000);
        due.is("byte 999", x.tape(999), 7);
        due.is("byte 1000", x.tape(1000), BitAlmanac.NONE);
        due.is("feed on a full tape", x.feed(7, 1), BitAlmanac.FULL);
        due.is("a wrong number on a full tape", x.feed(7, 0), BitAlmanac.BAD);
        due.is("cut it by one", x.cut(999), 999);
        due.is("and feed again", x.feed(9, 1), 1000);
    }

    private static void cut() {
        Shelf x = new Shelf();
        x.feed(0x010203L, 3);
        due.is("cut(4) of 3", x.cut(4), BitAlmanac.BAD);
        due.is("cut(-1)", x.cut(-1), BitAlmanac.BAD);
        due.is("refused: it stays", x.tape(2), 3);
        due.is("cut(3) of 3", x.cut(3), 3);
        due.is("cut(1)", x.cut(1), 1);
        due.is("its first byte stays", x.tape(0), 1);
        due.is("the second is gone", x.tape(1), BitAlmanac.NONE);
        due.is("feed behind it", x.feed(9, 1), 2);
        due.is("cut(0)", x.cut(0), 0);
        due.is("it is empty", x.tape(0), BitAlmanac.NONE);
    }

    private static void tape() {
        Shelf x = new Shelf();
        x.feed(0xFF00L, 2);
        due.is("tape(0)", x.tape(0), 255);
        due.is("tape(1)", x.tape(1), 0);
        due.is("tape(2)", x.tape(2), BitAlmanac.NONE);
        due.is("tape(-1)", x.tape(-1), BitAlmanac.NONE);
        due.is("tape(least)", x.tape(Integer.MIN_VALUE), BitAlmanac.NONE);
        due.is("tape(most)", x.tape(Integer.MAX_VALUE), BitAlmanac.NONE);
    }
}
