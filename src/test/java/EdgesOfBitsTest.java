/** Promises 26 to 32, sentence by sentence, each at its edge. */
public final class EdgesOfBitsTest {
    private static final Due due = new Due("EdgesOfBitsTest");
    private static final int LEAST = Integer.MIN_VALUE, MOST = Integer.MAX_VALUE;

    public static void main(String[] args) {
        rank();
        rankOther();
        rankBad();
        select();
        selectBad();
        bit();
        bitBad();
        flip();
        flipTables();
        flipBad();
        aboutKind();
        aboutBits();
        aboutEdges();
        aboutBytes();
        aboutEnds();
        aboutLow();
        aboutWidth();
        aboutTables();
        aboutBad();
        lose();
        loseOther();
        loseBad();
        mend();
        due.end();
    }

    /** A row with 1s in these bits. */
    private static Shelf row(int bits, int... ones) {
        Shelf x = new Shelf();
        x.row(0, bits);
        for (int one : ones) {
            x.flip(0, one, true);
        }
        return x;
    }

    /** Place k holds a book of kind k; the rows are 27 bits, 11, 11 and 7. */
    private static Shelf books() {
        Shelf x = new Shelf().drafted(6, "abcdefgh", "abcdefgx", "abcdxfgh");
        for (int kind = 1; kind <= 5; kind++) {
            x.seal(6, kind, kind);
        }
        return x;
    }

    private static void rank() {
        due.sentence(26, "RANK(i) of a BARE ROW or a BOOK's ROW.");
        int[] ones = {0, 63, 64, 127, 128, 511, 512, 575, 576, 1023, 1024, 3999};
        Shelf x = row(4000, ones);
        for (int k = 0; k < ones.length; k++) {
            due.is("rank(" + ones[k] + ")", x.rank(0, ones[k]), k);
            due.is("rank(" + (ones[k] + 1) + ")", x.rank(0, ones[k] + 1), k + 1);
        }
        x = row(128, 127);
        due.is("the end of 128", x.rank(0, 128), 1);
        x = row(512, 511);
        due.is("the end of 512", x.rank(0, 512), 1);
        x = books();
        int[] edges = {0, 0, 13, 5, 5, 3};
        int[] bits = {0, 0, 27, 11, 11, 7};
        for (int kind = 2; kind <= 5; kind++) {
            due.is("rank(0) of kind " + kind, x.rank(kind, 0), 0);
            due.is("rank of the end of kind " + kind, x.rank(kind, bits[kind]), edges[kind]);
        }
    }

    private static void rankOther() {
        due.sentence(26, "OTHER: also PLAIN.");
        Shelf x = books();
        due.is("PLAIN", x.rank(1, 0), BitAlmanac.OTHER);
        due.is("PLAIN with a wrong number", x.rank(1, -1), BitAlmanac.OTHER);
        due.is("a draft", x.rank(6, 0), BitAlmanac.OTHER);
        due.is("FORKED", x.rank(2, 0), 0);
        due.is("SPLIT", x.rank(5, 0), 0);
        due.is("select of PLAIN", x.select(1, 0), BitAlmanac.OTHER);
        due.is("bit of PLAIN", x.bit(1, 0), BitAlmanac.OTHER);
        due.is("flip of PLAIN", x.flip(1, 0, true), BitAlmanac.OTHER);
    }

    private static void rankBad() {
        due.sentence(26, "BAD: i.");
        Shelf x = row(64, 63);
        due.is("rank(-1)", x.rank(0, -1), BitAlmanac.BAD);
        due.is("rank(0)", x.rank(0, 0), 0);
        due.is("rank(64)", x.rank(0, 64), 1);
        due.is("rank(65)", x.rank(0, 65), BitAlmanac.BAD);
        due.is("rank(least)", x.rank(0, LEAST), BitAlmanac.BAD);
        due.is("rank(most)", x.rank(0, MOST), BitAlmanac.BAD);
        x = books();
        int[] bits = {0, 0, 27, 11, 11, 7};
        for (int kind = 2; kind <= 5; kind++) {
            due.is("rank(-1) of kind " + kind, x.rank(kind, -1), BitAlmanac.BAD);
            due.is("rank behind the end of kind " + kind, x.rank(kind, bits[kind] + 1), BitAlmanac.BAD);
        }
        x.row(0, 0);
        due.is("rank(0) without bits", x.rank(0, 0), 0);
        due.is("rank(1) without bits", x.rank(0, 1), BitAlmanac.BAD);
    }

    private static void select() {
        due.sentence(27, "SELECT(k) likewise.");
        int[] ones = {0, 63, 64, 127, 128, 511, 512, 575, 576, 1023, 1024, 3999};
        Shelf x = row(4000, ones);
        for (int k = 0; k < ones.length; k++) {
            due.is("select(" + k + ")", x.select(0, k), ones[k]);
        }
        x = books();
        // FORKED: 10 10 10 10 110 10 10 10 10 110 10 0 0 0; PAIRED: 10 110 110 0 0 0; SPLIT: 0 1110 0 0
        due.is("the first of FORKED", x.select(2, 0), 0);
        due.is("the last of FORKED", x.select(2, 12), 22);
        due.is("the first of PAIRED", x.select(3, 0), 0);
        due.is("the last of PAIRED", x.select(3, 4), 6);
        due.is("the first of SPLIT", x.select(5, 0), 1);
        due.is("the last of SPLIT", x.select(5, 2), 3);
        x = row(4000, 3999);
        due.is("the last bit alone", x.select(0, 0), 3999);
    }

    private static void selectBad() {
        due.sentence(27, "BAD: there is no k-th 1.");
        Shelf x = row(100);
        due.is("select(0) without 1s", x.select(0, 0), BitAlmanac.BAD);
        x.flip(0, 50, true);
        due.is("select(0) with one", x.select(0, 0), 50);
        due.is("select(1) with one", x.select(0, 1), BitAlmanac.BAD);
        due.is("select(-1)", x.select(0, -1), BitAlmanac.BAD);
        due.is("select(least)", x.select(0, LEAST), BitAlmanac.BAD);
        due.is("select(most)", x.select(0, MOST), BitAlmanac.BAD);
        x.flip(0, 50, false);
        due.is("select(0) when it is 0 again", x.select(0, 0), BitAlmanac.BAD);
        x.row(0, 0);
        due.is("select(0) without bits", x.select(0, 0), BitAlmanac.BAD);
        x = books();
        int[] edges = {0, 0, 13, 5, 5, 3};
        for (int kind = 2; kind <= 5; kind++) {
            due.isTrue("the last of kind " + kind + " is there", x.select(kind, edges[kind] - 1) >= 0);
            due.is("one more of kind " + kind, x.select(kind, edges[kind]), BitAlmanac.BAD);
            due.is("select(-1) of kind " + kind, x.select(kind, -1), BitAlmanac.BAD);
        }
    }

    private static void bit() {
        due.sentence(28, "BIT i likewise, TABLES or not.");
        Shelf x = row(65, 0, 64);
        for (int lost = 0; lost <= 2; lost++) {
            due.is("the first", x.bit(0, 0), 1);
            due.is("the second", x.bit(0, 1), 0);
            due.is("the last but one", x.bit(0, 63), 0);
            due.is("the last", x.bit(0, 64), 1);
            x.lose(0, lost);
        }
        x = books();
        for (int kind = 2; kind <= 5; kind++) {
            String bits = x.bookBits(kind);
            x.lose(kind, 0);
            due.isText("the bits without A", x.bookBits(kind), bits);
            x.lose(kind, 1);
            due.isText("the bits without both", x.bookBits(kind), bits);
        }
        due.isText("the bits of PAIRED", x.bookBits(3), "10" + "110" + "110" + "0" + "0" + "0");
    }

    private static void bitBad() {
        due.sentence(28, "BAD: there is none.");
        Shelf x = row(64);
        due.is("bit(-1)", x.bit(0, -1), BitAlmanac.BAD);
        due.is("bit(63)", x.bit(0, 63), 0);
        due.is("bit(64)", x.bit(0, 64), BitAlmanac.BAD);
        due.is("bit(least)", x.bit(0, LEAST), BitAlmanac.BAD);
        due.is("bit(most)", x.bit(0, MOST), BitAlmanac.BAD);
        x.row(0, 0);
        due.is("bit(0) without bits", x.bit(0, 0), BitAlmanac.BAD);
        x.row(0, 4000);
        due.is("bit(3999)", x.bit(0, 3999), 0);
        due.is("bit(4000)", x.bit(0, 4000), BitAlmanac.BAD);
        x = books();
        due.is("the last of FORKED", x.bit(2, 26), 0);
        due.is("none behind it", x.bit(2, 27), BitAlmanac.BAD);
        due.is("the last of SPLIT", x.bit(5, 6), 0);
        due.is("none behind it", x.bit(5, 7), BitAlmanac.BAD);
        due.is("bit(-1) of SPLIT", x.bit(5, -1), BitAlmanac.BAD);
    }

    private static void flip() {
        due.sentence(29, "BIT i of a BARE ROW becomes 1, or 0: what it was");
        Shelf x = row(4000);
        for (int i : new int[] {0, 63, 64, 511, 512, 3999}) {
            due.is("0 to 0", x.flip(0, i, false), 0);
            due.is("0 to 1", x.flip(0, i, true), 0);
            due.is("it is 1", x.bit(0, i), 1);
            due.is("1 to 1", x.flip(0, i, true), 1);
            due.is("one 1", x.rank(0, 4000), 1);
            due.is("1 to 0", x.flip(0, i, false), 1);
            due.is("it is 0", x.bit(0, i), 0);
            due.is("no 1", x.rank(0, 4000), 0);
        }
        x = books();
        for (int kind = 1; kind <= 5; kind++) {
            due.is("of a book", x.flip(kind, 0, true), BitAlmanac.OTHER);
        }
    }

    private static void flipTables() {
        due.sentence(29, "its TABLES are as its BITS then (one that is LOST stays so).");
        for (int lost = 0; lost <= 3; lost++) {
            Shelf x = row(1100, 3);
            if ((lost & 1) != 0) {
                x.lose(0, 0);
            }
            if ((lost & 2) != 0) {
                x.lose(0, 1);
            }
            x.flip(0, 3, false);
            x.flip(0, 0, true);
            x.flip(0, 511, true);
            x.flip(0, 512, true);
            x.flip(0, 1099, true);
            due.is("rank with lost tables " + lost, x.rank(0, 1100), lost == 0 ? 4 : BitAlmanac.MISSING);
            due.is("what was lost is", x.mend(0), lost == 0 ? 0 : lost == 3 ? 2 : 1);
            due.is("rank(512)", x.rank(0, 512), 2);
            due.is("rank(513)", x.rank(0, 513), 3);
            due.is("rank(1024)", x.rank(0, 1024), 3);
            due.is("rank(1100)", x.rank(0, 1100), 4);
            due.is("select(0)", x.select(0, 0), 0);
            due.is("select(2)", x.select(0, 2), 512);
            due.is("select(3)", x.select(0, 3), 1099);
        }
    }

    private static void flipBad() {
        due.sentence(29, "BAD: there is none.");
        Shelf x = row(64);
        due.is("flip(-1)", x.flip(0, -1, true), BitAlmanac.BAD);
        due.is("flip(64)", x.flip(0, 64, true), BitAlmanac.BAD);
        due.is("flip(least)", x.flip(0, LEAST, true), BitAlmanac.BAD);
        due.is("flip(most)", x.flip(0, MOST, true), BitAlmanac.BAD);
        due.is("no 1s", x.rank(0, 64), 0);
        due.is("flip(0)", x.flip(0, 0, true), 0);
        due.is("flip(63)", x.flip(0, 63, true), 0);
        due.is("two 1s", x.rank(0, 64), 2);
        x.row(0, 0);
        due.is("flip(0) without bits", x.flip(0, 0, true), BitAlmanac.BAD);
        x.row(0, 4000);
        due.is("flip(3999)", x.flip(0, 3999, true), 0);
        due.is("flip(4000)", x.flip(0, 4000, true), BitAlmanac.BAD);
    }

    /** What about() tells of the books of kinds 1 to 5, with their tables or without. */
    private static void aboutIs(int what, int... wants) {
        Shelf x = books();
        for (int kind = 1; kind <= 5; kind++) {
            due.is("about(" + what + ") of kind " + kind, x.about(kind, what), wants[kind - 1]);
            x.lose(kind, 0);
            x.lose(kind, 1);
            due.is("about(" + what + ") without tables", x.about(kind, what), what == 7 ? 0 : wants[kind - 1]);
        }
    }

    private static void aboutKind() {
        due.sentence(30, "Of a BOOK: what 0 its KIND");
        aboutIs(0, 1, 2, 3, 4, 5);
        Shelf x = books();
        due.is("of a draft", x.about(6, 0), BitAlmanac.OTHER);
        x.row(7, 5);
        due.is("of a row", x.about(7, 0), BitAlmanac.OTHER);
    }

    private static void aboutBits() {
        due.sentence(30, "1 BITS of its ROW (0)");
        aboutIs(1, 0, 27, 11, 11, 7);
    }

    private static void aboutEdges() {
        due.sentence(30, "2 EDGES (0: PLAIN, SPLIT)");
        aboutIs(2, 0, 13, 5, 5, 0);
    }

    private static void aboutBytes() {
        due.sentence(30, "3 bytes of NAMES (PLAIN), EDGES (FORKED), or STRINGS that are there (0: SPLIT)");
        aboutIs(3, 24, 13, 13, 13, 0);
        Shelf x = new Shelf().bound(0, 3, "xa", "xb", "ya", "yb");
        due.is("PAIRED", x.about(0, 3), 6);
        x.bound(0, 4, "xa", "xb", "ya", "yb");
        due.is("FOLDED", x.about(0, 3), 4);
    }

    private static void aboutEnds() {
        due.sentence(30, "4 ENDS that are 1 (0: PLAIN, SPLIT)");
        aboutIs(4, 0, 3, 3, 3, 0);
    }

    private static void aboutLow() {
        due.sentence(30, "5 bits of all LOW parts (SPLIT, else 0)");
        aboutIs(5, 0, 0, 0, 0, 3 * 62);
        Shelf x = new Shelf().bound(0, 5, "aaaaaaaa");
        due.is("one name", x.about(0, 5), 63);
    }

    private static void aboutWidth() {
        due.sentence(30, "6 WIDTH");
        aboutIs(6, 1, 1, 1, 1, 1);
        for (int kind = 1; kind <= 5; kind++) {
            Shelf x = new Shelf();
            x.draft(0);
            x.fed("aaaaaaaa").put(0, 127);
            x.seal(0, 1, kind);
            due.is("of 127", x.about(1, 6), 1);
            x.fed("aaaaaaaa").put(0, 128);
            x.seal(0, 1, kind);
            due.is("of 128", x.about(1, 6), 2);
        }
    }

    private static void aboutTables() {
        due.sentence(30, "7 numbers in its TABLES that are there (0).");
        aboutIs(7, 0, 2, 2, 2, 2);
        Shelf x = new Shelf().bound(0, 2, "a".repeat(24), "b".repeat(8));
        due.is("65 bits", x.about(0, 7), 1 + 2);
        x.lose(0, 0);
        due.is("A lost", x.about(0, 7), 2);
        x.lose(0, 1);
        due.is("both lost", x.about(0, 7), 0);
        x.mend(0);
        due.is("mended", x.about(0, 7), 3);
        x.lose(0, 1);
        due.is("B lost", x.about(0, 7), 1);
    }

    private static void aboutBad() {
        due.sentence(30, "BAD: what.");
        Shelf x = books();
        for (int kind = 1; kind <= 5; kind++) {
            due.is("about(-1)", x.about(kind, -1), BitAlmanac.BAD);
            due.is("about(0)", x.about(kind, 0), kind);
            due.is("about(7)", x.about(kind, 7), kind == 1 ? 0 : 2);
            due.is("about(8)", x.about(kind, 8), BitAlmanac.BAD);
            due.is("about(least)", x.about(kind, LEAST), BitAlmanac.BAD);
            due.is("about(most)", x.about(kind, MOST), BitAlmanac.BAD);
        }
    }

    private static void lose() {
        due.sentence(31, "TABLE A (0) or B (1) of a BARE ROW or a BOOK's ROW is LOST: 1; 0: it was.");
        Shelf x = books();
        x.row(7, 600);
        for (int p : new int[] {2, 3, 4, 5, 7}) {
            due.is("lose A", x.lose(p, 0), 1);
            due.is("lose A again", x.lose(p, 0), 0);
            due.is("rank", x.rank(p, 0), BitAlmanac.MISSING);
            due.is("lose B too", x.lose(p, 1), 1);
            due.is("lose B again", x.lose(p, 1), 0);
            due.is("mend both", x.mend(p), 2);
            due.is("lose B alone", x.lose(p, 1), 1);
            due.is("rank", x.rank(p, 0), BitAlmanac.MISSING);
            due.is("mend B", x.mend(p), 1);
            due.is("lose A when mended", x.lose(p, 0), 1);
        }
        due.is("A's numbers are gone", x.about(2, 7), 1);
        x = row(0);
        due.is("lose A of no bits", x.lose(0, 0), 1);
        due.is("rank(0)", x.rank(0, 0), BitAlmanac.MISSING);
    }

    private static void loseOther() {
        due.sentence(31, "OTHER: also PLAIN.");
        Shelf x = books();
        due.is("PLAIN, A", x.lose(1, 0), BitAlmanac.OTHER);
        due.is("PLAIN, B", x.lose(1, 1), BitAlmanac.OTHER);
        due.is("PLAIN, wrong", x.lose(1, 2), BitAlmanac.OTHER);
        due.is("a draft", x.lose(6, 0), BitAlmanac.OTHER);
        due.is("PLAIN is asked all the same", x.fed("abcdefgh").number(1), 0);
    }

    private static void loseBad() {
        due.sentence(31, "BAD: which.");
        Shelf x = books();
        for (int which : new int[] {-1, 2, LEAST, MOST}) {
            due.is("lose(" + which + ")", x.lose(2, which), BitAlmanac.BAD);
        }
        due.is("nothing is lost", x.mend(2), 0);
    }

    private static void mend() {
        due.sentence(32, "What is LOST likewise is made again: how many TABLES.");
        Shelf x = books();
        x.row(7, 600);
        x.flip(7, 599, true);
        due.is("mend PLAIN", x.mend(1), BitAlmanac.OTHER);
        due.is("mend a draft", x.mend(6), BitAlmanac.OTHER);
        for (int p : new int[] {2, 3, 4, 5, 7}) {
            int end = p == 7 ? 600 : x.about(p, 1);
            int ones = x.rank(p, end);
            due.is("nothing lost", x.mend(p), 0);
            for (int lost = 1; lost <= 3; lost++) {
                if ((lost & 1) != 0) {
                    x.lose(p, 0);
                }
                if ((lost & 2) != 0) {
                    x.lose(p, 1);
                }
                due.is("mend", x.mend(p), lost == 3 ? 2 : 1);
                due.is("mend again", x.mend(p), 0);
                due.is("rank of the end", x.rank(p, end), ones);
                due.is("the last 1", x.rank(p, x.select(p, ones - 1)), ones - 1);
            }
        }
    }
}
