/** Promises 1 to 9 and 40, sentence by sentence, each at its edge. */
public final class EdgesOfTapeAndPlacesTest {
    private static final Due due = new Due("EdgesOfTapeAndPlacesTest");
    private static final int LEAST = Integer.MIN_VALUE, MOST = Integer.MAX_VALUE;

    public static void main(String[] args) {
        newTape();
        newPlaces();
        feedOrder();
        feedBad();
        feedFull();
        cutKeeps();
        cutBad();
        tapeByte();
        tapeNone();
        draft();
        row();
        rowBad();
        clear();
        share();
        shareNothing();
        kind();
        kindBeyond();
        same();
        sameOfNothing();
        due.end();
    }

    private static void newTape() {
        due.sentence(1, "An empty TAPE");
        due.is("tape(0)", new Shelf().tape(0), BitAlmanac.NONE);
        due.is("cut(1)", new Shelf().cut(1), BitAlmanac.BAD);
        due.is("feed one byte", new Shelf().feed(0, 1), 1);
        due.is("load", new Shelf().load(0), BitAlmanac.BAD);
    }

    private static void newPlaces() {
        due.sentence(1, "all PLACES hold NOTHING.");
        Shelf x = new Shelf();
        for (int p = 0; p <= 9; p++) {
            due.is("kind(" + p + ")", x.kind(p), 0);
            due.is("count(" + p + ")", x.count(p), BitAlmanac.NOTHING);
            due.is("same(" + p + ")", x.same(p), 0);
        }
    }

    private static void feedOrder() {
        due.sentence(2, "The n lowest bytes of w, the highest first, come behind THE TAPE's: how many it has.");
        long w = 0xF1F2F3F4F5F6F7F8L;
        int had = 0;
        Shelf x = new Shelf();
        for (int n = 1; n <= 8; n++) {
            due.is("feed " + n, x.feed(w, n), had + n);
            for (int i = 0; i < n; i++) {
                due.is("byte " + i + " of " + n, x.tape(had + i), 0xF8 - (n - 1 - i));
            }
            had += n;
        }
        due.is("none behind them", x.tape(had), BitAlmanac.NONE);
        due.is("feed the least long", x.feed(Long.MIN_VALUE, 8), had + 8);
        due.is("its highest byte", x.tape(had), 128);
        due.is("its lowest byte", x.tape(had + 7), 0);
        due.is("feed -1", x.feed(-1, 1), had + 9);
        due.is("its byte", x.tape(had + 8), 255);
    }

    private static void feedBad() {
        due.sentence(2, "BAD: n is not 1 .. 8");
        Shelf x = new Shelf();
        due.is("feed(5, 0)", x.feed(5, 0), BitAlmanac.BAD);
        due.is("feed(5, -1)", x.feed(5, -1), BitAlmanac.BAD);
        due.is("feed(5, 9)", x.feed(5, 9), BitAlmanac.BAD);
        due.is("feed(5, least)", x.feed(5, LEAST), BitAlmanac.BAD);
        due.is("feed(5, most)", x.feed(5, MOST), BitAlmanac.BAD);
        due.is("the tape stays empty", x.tape(0), BitAlmanac.NONE);
        due.is("feed(5, 1)", x.feed(5, 1), 1);
        due.is("feed(5, 8)", x.feed(5, 8), 9);
    }

    private static void feedFull() {
        due.sentence(2, "FULL.");
        Shelf x = new Shelf().fed("t".repeat(999));
        due.is("two bytes on 999", x.feed(0x0102, 2), BitAlmanac.FULL);
        due.is("not one of them came", x.tape(999), BitAlmanac.NONE);
        due.is("one byte on 999", x.feed(7, 1), 1000);
        due.is("it came", x.tape(999), 7);
        due.is("one byte on 1000", x.feed(8, 1), BitAlmanac.FULL);
        due.is("eight bytes on 1000", x.feed(8, 8), BitAlmanac.FULL);
        due.is("the last byte stays", x.tape(999), 7);
        due.is("there is none behind it", x.tape(1000), BitAlmanac.NONE);
        due.is("no bytes on 1000", x.feed(8, 0), BitAlmanac.BAD);
        due.is("nine bytes on 1000", x.feed(8, 9), BitAlmanac.BAD);
    }

    private static void cutKeeps() {
        due.sentence(3, "THE TAPE keeps its first n bytes: n.");
        Shelf x = new Shelf().fed("abcd");
        due.is("cut(4)", x.cut(4), 4);
        due.isText("the tape", x.readTape(), "abcd");
        due.is("cut(3)", x.cut(3), 3);
        due.isText("the tape", x.readTape(), "abc");
        due.is("feed behind it", x.feed('x', 1), 4);
        due.isText("the tape", x.readTape(), "abcx");
        due.is("cut(0)", x.cut(0), 0);
        due.isText("the tape", x.readTape(), "");
        due.is("cut(0) again", x.cut(0), 0);
        x = new Shelf().fed("t".repeat(1000));
        due.is("cut(1000)", x.cut(1000), 1000);
        due.is("byte 999", x.tape(999), 't');
        due.is("cut(999)", x.cut(999), 999);
        due.is("byte 999", x.tape(999), BitAlmanac.NONE);
    }

    private static void cutBad() {
        due.sentence(3, "BAD: it has not so many, n below 0.");
        Shelf x = new Shelf();
        due.is("cut(1) of an empty tape", x.cut(1), BitAlmanac.BAD);
        x.fed("abcd");
        due.is("cut(5) of 4", x.cut(5), BitAlmanac.BAD);
        due.is("cut(-1)", x.cut(-1), BitAlmanac.BAD);
        due.is("cut(least)", x.cut(LEAST), BitAlmanac.BAD);
        due.is("cut(most)", x.cut(MOST), BitAlmanac.BAD);
        due.isText("the tape", x.readTape(), "abcd");
        x.cut(2);
        due.is("cut(3) when 2 are left", x.cut(3), BitAlmanac.BAD);
        due.is("cut(1001) of 1000", new Shelf().fed("t".repeat(1000)).cut(1001), BitAlmanac.BAD);
    }

    private static void tapeByte() {
        due.sentence(4, "Byte i of THE TAPE.");
        Shelf x = new Shelf().fed("\0\u0001\u007f\u0080\u00ff");
        int[] bytes = {0, 1, 127, 128, 255};
        for (int i = 0; i < bytes.length; i++) {
            due.is("tape(" + i + ")", x.tape(i), bytes[i]);
        }
        due.is("tape(999)", new Shelf().fed("t".repeat(999) + "u").tape(999), 'u');
    }

    private static void tapeNone() {
        due.sentence(4, "NONE.");
        Shelf x = new Shelf().fed("ab");
        due.is("tape(-1)", x.tape(-1), BitAlmanac.NONE);
        due.is("tape(1)", x.tape(1), 'b');
        due.is("tape(2)", x.tape(2), BitAlmanac.NONE);
        due.is("tape(1000)", x.tape(1000), BitAlmanac.NONE);
        due.is("tape(least)", x.tape(LEAST), BitAlmanac.NONE);
        due.is("tape(most)", x.tape(MOST), BitAlmanac.NONE);
        x.cut(1);
        due.is("tape(1) when it is cut", x.tape(1), BitAlmanac.NONE);
    }

    private static void draft() {
        due.sentence(5, "PLACE p holds a DRAFT without NAMES: 0.");
        Shelf x = new Shelf();
        for (int p : new int[] {0, 9}) {
            due.is("draft", x.draft(p), 0);
            due.is("its kind", x.kind(p), 6);
            due.is("its names", x.count(p), 0);
            x.fed("a").put(p, 1);
            x.share(p, 5);
            due.is("draft over a draft", x.draft(p), 0);
            due.is("its names", x.count(p), 0);
            due.is("it is another one", x.same(p), 1);
            due.is("the former one stays elsewhere", x.count(5), 1);
        }
        due.is("draft over a row", x.row(0, 3) + x.draft(0), 3);
        due.is("its kind", x.kind(0), 6);
        due.is("draft(-1)", x.draft(-1), BitAlmanac.BEYOND);
        due.is("draft(10)", x.draft(10), BitAlmanac.BEYOND);
    }

    private static void row() {
        due.sentence(6, "PLACE p holds a BARE ROW of n BITS, all 0, none of its TABLES LOST: n.");
        for (int n : new int[] {1, 63, 64, 65, 511, 512, 513, 3999, 4000}) {
            Shelf x = new Shelf();
            due.is("row", x.row(0, n), n);
            due.is("its kind", x.kind(0), 7);
            due.is("its bits", x.count(0), n);
            due.is("the first", x.bit(0, 0), 0);
            due.is("the last", x.bit(0, n - 1), 0);
            due.is("none behind it", x.bit(0, n), BitAlmanac.BAD);
            due.is("no 1s", x.rank(0, n), 0);
            due.is("nothing to mend", x.mend(0), 0);
            x.flip(0, n - 1, true);
            x.lose(0, 0);
            x.lose(0, 1);
            due.is("row again", x.row(0, n), n);
            due.is("no 1s, no table lost", x.rank(0, n), 0);
            due.is("nothing to mend", x.mend(0), 0);
        }
    }

    private static void rowBad() {
        due.sentence(6, "BAD: n is above 4000, or below 0.");
        Shelf x = new Shelf();
        due.is("row(9, 4000)", x.row(9, 4000), 4000);
        due.is("row(9, 4001)", x.row(9, 4001), BitAlmanac.BAD);
        due.is("row(9, -1)", x.row(9, -1), BitAlmanac.BAD);
        due.is("row(9, least)", x.row(9, LEAST), BitAlmanac.BAD);
        due.is("row(9, most)", x.row(9, MOST), BitAlmanac.BAD);
        due.is("the row stays", x.count(9), 4000);
        due.is("row(9, 0)", x.row(9, 0), 0);
        due.is("its kind", x.kind(9), 7);
        due.is("its bits", x.count(9), 0);
        due.is("no bit 0", x.bit(9, 0), BitAlmanac.BAD);
        due.is("nothing where a row was refused", x.row(3, 4001) + x.kind(3), BitAlmanac.BAD);
    }

    private static void clear() {
        due.sentence(7, "PLACE p holds NOTHING: what it held (as kind()).");
        Shelf x = new Shelf();
        for (int p : new int[] {0, 9}) {
            due.is("clear nothing", x.clear(p), 0);
            for (int kind = 1; kind <= 5; kind++) {
                x.bound(p, kind, "abcdefgh");
                due.is("clear a book", x.clear(p), kind);
                due.is("nothing is there", x.kind(p), 0);
            }
            x.draft(p);
            due.is("clear a draft", x.clear(p), 6);
            x.row(p, 0);
            x.share(p, 4);
            due.is("clear a row", x.clear(p), 7);
            due.is("clear again", x.clear(p), 0);
            due.is("it stays in the other place", x.kind(4), 7);
        }
        due.is("clear(-1)", x.clear(-1), BitAlmanac.BEYOND);
        due.is("clear(10)", x.clear(10), BitAlmanac.BEYOND);
    }

    private static void share() {
        due.sentence(8, "PLACE q holds what PLACE p does, that very thing: what that is (as kind()).");
        Shelf x = new Shelf();
        for (int kind = 1; kind <= 5; kind++) {
            x.bound(0, kind, "abcdefgh");
            due.is("share a book", x.share(0, 9), kind);
            due.is("its kind", x.kind(9), kind);
            due.is("that very book", x.same(9), 2);
        }
        x.lose(9, 1);
        due.is("its table is lost in both places", x.rank(0, 0), BitAlmanac.MISSING);
        x.draft(9);
        due.is("share a draft to what holds nothing", x.share(9, 1), 6);
        x.fed("a").put(1, 5);
        due.is("that very draft", x.count(9), 1);
        x.row(0, 5);
        due.is("share a row over a draft", x.share(0, 1), 7);
        x.flip(1, 4, true);
        due.is("that very row", x.bit(0, 4), 1);
        due.is("the draft stays where it was", x.count(9), 1);
        due.is("share with itself", x.share(0, 0), 7);
        due.is("it is held in two places still", x.same(0), 2);
    }

    private static void shareNothing() {
        due.sentence(8, "NOTHING: of p.");
        Shelf x = new Shelf();
        x.draft(1);
        due.is("p holds nothing", x.share(0, 1), BitAlmanac.NOTHING);
        due.is("q stays", x.kind(1), 6);
        due.is("both hold nothing", x.share(0, 2), BitAlmanac.NOTHING);
        due.is("nothing with itself", x.share(0, 0), BitAlmanac.NOTHING);
        due.is("q holds nothing", x.share(1, 0), 6);
        due.is("p beyond", x.share(-1, 0), BitAlmanac.BEYOND);
        due.is("p beyond", x.share(10, 0), BitAlmanac.BEYOND);
        due.is("q beyond", x.share(1, -1), BitAlmanac.BEYOND);
        due.is("q beyond", x.share(1, 10), BitAlmanac.BEYOND);
        due.is("p nothing, q beyond", x.share(5, 10), BitAlmanac.BEYOND);
    }

    private static void kind() {
        due.sentence(9, "0 NOTHING, 1 to 5 a BOOK of that KIND, 6 a DRAFT, 7 a BARE ROW.");
        Shelf x = new Shelf().drafted(6, "abcdefgh");
        for (int kind = 1; kind <= 5; kind++) {
            x.seal(6, kind, kind);
        }
        x.row(7, 3);
        for (int p = 0; p <= 9; p++) {
            due.is("kind(" + p + ")", x.kind(p), p <= 7 ? p : 0);
        }
    }

    private static void kindBeyond() {
        due.sentence(9, "BEYOND.");
        Shelf x = new Shelf();
        due.is("kind(-1)", x.kind(-1), BitAlmanac.BEYOND);
        due.is("kind(0)", x.kind(0), 0);
        due.is("kind(9)", x.kind(9), 0);
        due.is("kind(10)", x.kind(10), BitAlmanac.BEYOND);
        due.is("kind(least)", x.kind(LEAST), BitAlmanac.BEYOND);
        due.is("kind(most)", x.kind(MOST), BitAlmanac.BEYOND);
    }

    private static void same() {
        due.sentence(40, "How many PLACES hold the very same thing as p, with itself.");
        Shelf x = new Shelf();
        x.row(0, 5);
        due.is("one alone", x.same(0), 1);
        x.row(1, 5);
        due.is("a like row is another one", x.same(0), 1);
        for (int q = 1; q <= 9; q++) {
            x.share(0, q);
            due.is("held in " + (q + 1) + " places", x.same(q), q + 1);
            due.is("seen from the first", x.same(0), q + 1);
        }
        x.clear(9);
        due.is("one less", x.same(0), 9);
        x.bound(0, 1, "a").bound(1, 1, "a");
        due.is("a like book is another one", x.same(0), 1);
        x.image(0);
        x.load(1);
        due.is("a loaded one, too", x.same(0), 1);
        x.draft(0);
        x.draft(1);
        due.is("a like draft, too", x.same(1), 1);
    }

    private static void sameOfNothing() {
        due.sentence(40, "(0: NOTHING is held.)");
        Shelf x = new Shelf();
        due.is("same(0)", x.same(0), 0);
        due.is("same(9)", x.same(9), 0);
        x.draft(0);
        due.is("same beside a draft", x.same(9), 0);
        x.clear(0);
        due.is("same when it is cleared", x.same(0), 0);
        due.is("same(-1)", x.same(-1), BitAlmanac.BEYOND);
        due.is("same(10)", x.same(10), BitAlmanac.BEYOND);
    }
}
