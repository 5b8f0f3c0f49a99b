/** Promises 5 to 9 and 40: draft, row, clear, share, kind, same. */
public final class PlacesTest {
    private static final Due due = new Due("PlacesTest");
    private static final int[] BEYOND_PLACES = {-1, 10, Integer.MIN_VALUE, Integer.MAX_VALUE};

    public static void main(String[] args) {
        beyond();
        draft();
        row();
        clear();
        share();
        kind();
        same();
        due.end();
    }

    private static void beyond() {
        Shelf x = new Shelf();
        x.draft(0);
        for (int p : BEYOND_PLACES) {
            due.is("draft beyond", x.draft(p), BitAlmanac.BEYOND);
            due.is("row beyond", x.row(p, 5), BitAlmanac.BEYOND);
            due.is("row beyond with a wrong number", x.row(p, -1), BitAlmanac.BEYOND);
            due.is("clear beyond", x.clear(p), BitAlmanac.BEYOND);
            due.is("share from beyond", x.share(p, 0), BitAlmanac.BEYOND);
            due.is("share to beyond", x.share(0, p), BitAlmanac.BEYOND);
            due.is("share nothing to beyond", x.share(1, p), BitAlmanac.BEYOND);
            due.is("kind beyond", x.kind(p), BitAlmanac.BEYOND);
            due.is("same beyond", x.same(p), BitAlmanac.BEYOND);
        }
    }

    private static void draft() {
        Shelf x = new Shelf();
        due.is("draft(9)", x.draft(9), 0);
        due.is("it is one", x.kind(9), 6);
        due.is("without names", x.count(9), 0);
        x.taped("a").put(9, 1);
        due.is("draft(9) again", x.draft(9), 0);
        due.is("without names again", x.count(9), 0);
    }

    private static void row() {
        Shelf x = new Shelf();
        due.is("row(0, 4000)", x.row(0, 4000), 4000);
        due.is("its last bit", x.bit(0, 3999), 0);
        due.is("no bit behind it", x.bit(0, 4000), BitAlmanac.BAD);
        due.is("no 1s", x.rank(0, 4000), 0);
        due.is("row(0, 4001)", x.row(0, 4001), BitAlmanac.BAD);
        due.is("row(0, -1)", x.row(0, -1), BitAlmanac.BAD);
        due.is("row(0, most)", x.row(0, Integer.MAX_VALUE), BitAlmanac.BAD);
        due.is("row(0, least)", x.row(0, Integer.MIN_VALUE), BitAlmanac.BAD);
        due.is("refused: the row stays", x.count(0), 4000);
        x.flip(0, 1, true);
        x.lose(0, 0);
        due.is("row(0, 3)", x.row(0, 3), 3);
        due.is("all bits 0, no table lost", x.rank(0, 3), 0);
        due.is("row(1, 0)", x.row(1, 0), 0);
        due.is("a row without bits is one", x.kind(1), 7);
        due.is("its rank(0)", x.rank(1, 0), 0);
    }

    private static void clear() {
        Shelf x = new Shelf();
        due.is("clear nothing", x.clear(0), 0);
        x.draft(0);
        due.is("clear a draft", x.clear(0), 6);
        due.is("nothing is held", x.kind(0), 0);
        x.row(0, 1);
        x.share(0, 1);
        due.is("clear a row", x.clear(0), 7);
        due.is("the other place holds it still", x.kind(1), 7);
        for (int kind = 1; kind <= 5; kind++) {
            x.bound(0, kind, "abcdefgh");
            due.is("clear a book", x.clear(0), kind);
            due.is("clear again", x.clear(0), 0);
        }
    }

    private static void share() {
        Shelf x = new Shelf();
        x.row(1, 3);
        due.is("share nothing", x.share(0, 1), BitAlmanac.NOTHING);
        due.is("refused: q stays", x.kind(1), 7);
        x.draft(0);
        due.is("share a draft", x.share(0, 1), 6);
        x.taped("a").put(1, 5);
        due.is("it is that very draft", x.count(0), 1);
        due.is("share a row", shareRow(x), 7);
        x.flip(3, 2, true);
        due.is("it is that very row", x.bit(2, 2), 1);
        x.bound(4, 3, "a", "b");
        due.is("share a book", x.share(4, 5), 3);
        x.lose(5, 1);
        due.is("it is that very book", x.mend(4), 1);
        due.is("share with itself", x.share(4, 4), 3);
        due.is("it stays", x.kind(4), 3);
    }

    private static int shareRow(Shelf x) {
        x.row(2, 3);
        return x.share(2, 3);
    }

    private static void kind() {
        Shelf x = new Shelf();
        due.is("kind of nothing", x.kind(0), 0);
        for (int kind = 1; kind <= 5; kind++) {
            x.bound(kind, kind, "abcdefgh");
            due.is("kind of a book", x.kind(kind), kind);
        }
        x.draft(6);
        x.row(7, 10);
        due.is("kind of a draft", x.kind(6), 6);
        due.is("kind of a row", x.kind(7), 7);
    }

    private static void same() {
        Shelf x = new Shelf();
        due.is("same of nothing", x.same(3), 0);
        x.draft(0);
        x.draft(1);
        due.is("same of one alone", x.same(0), 1);
        for (int q = 2; q < 10; q++) {
            x.share(0, q);
            due.is("same with " + q, x.same(q), q);
        }
        x.share(0, 1);
        due.is("same in all places", x.same(1), 10);
        x.clear(0);
        due.is("one less", x.same(1), 9);
        due.is("nothing where it was", x.same(0), 0);
        x.bound(0, 1, "a");
        x.unseal(0, 1);
        x.seal(1, 1, 1);
        due.is("an equal book is not the same", x.same(0), 1);
    }
}
