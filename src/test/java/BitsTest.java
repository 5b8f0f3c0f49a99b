/** Promises 26 to 32: rank, select, bit, flip, about, lose, mend. */
public final class BitsTest {
    private static final Due due = new Due("BitsTest");

    public static void main(String[] args) {
        refusedPlaces();
        for (int bits : new int[] {0, 1, 63, 64, 65, 511, 512, 513, 1100, 4000}) {
            ranksAndSelects(bits);
        }
        flip();
        loseAndMend();
        mendAfterFlips();
        forkedRow();
        largestForkedRow();
        pairedRow();
        splitRow();
        largestSplitRow();
        aboutKinds();
        aboutFolded();
        aboutWidth();
        aboutTables();
        due.end();
    }

    private static int act(Shelf x, int which, int p) {
        switch (which) {
            case 0: return x.rank(p, 0);
            case 1: return x.select(p, 0);
            case 2: return x.bit(p, 0);
            case 3: return x.lose(p, 0);
            case 4: return x.mend(p);
            case 5: return x.flip(p, 0, true);
            default: return x.about(p, 0);
        }
    }

    private static void refusedPlaces() {
        Shelf x = new Shelf();
        x.bound(0, 1, "a");
        x.bound(1, 2, "a");
        x.draft(2);
        x.row(3, 5);
        for (int which = 0; which <= 6; which++) {
            due.is("act " + which + " beyond", act(x, which, -1), BitAlmanac.BEYOND);
            due.is("act " + which + " beyond", act(x, which, 10), BitAlmanac.BEYOND);
            due.is("act " + which + " on nothing", act(x, which, 5), BitAlmanac.NOTHING);
            due.is("act " + which + " on a draft", act(x, which, 2), BitAlmanac.OTHER);
            due.is("act " + which + " on PLAIN", act(x, which, 0), which == 6 ? 1 : BitAlmanac.OTHER);
        }
        due.is("flip a book's row", x.flip(1, 0, true), BitAlmanac.OTHER);
        due.is("about a row", x.about(3, 0), BitAlmanac.OTHER);
        due.is("about -1", x.about(1, -1), BitAlmanac.BAD);
        due.is("about 8", x.about(1, 8), BitAlmanac.BAD);
    }

    /** The bits that the row of so many bits is to have: some 1s, the last bit among them. */
    private static boolean[] marks(int bits) {
        boolean[] ones = new boolean[bits];
        for (int i = bits - 1; i >= 0; i -= 1 + i % 37) {
            ones[i] = true;
        }
        return ones;
    }

    private static Shelf marked(boolean[] ones) {
        Shelf x = new Shelf();
        x.row(0, ones.length);
        for (int i = 0; i < ones.length; i++) {
            if (ones[i]) {
                due.is("flip", x.flip(0, i, true), 0);
            }
        }
        return x;
    }

    /** Marks some bits, and looks at ranks and selects around each, on a new object for each 64 of them. */
    private static void ranksAndSelects(int bits) {
        boolean[] ones = marks(bits);
        Shelf x = marked(ones);
        int rank = 0;
        for (int i = 0; i <= bits; i++) {
            if (i % 64 == 63) {
                x = marked(ones);
            }
            due.is("rank(" + i + ") of " + bits, x.rank(0, i), rank);
            if (i < bits && ones[i]) {
                due.is("select(" + rank + ") of " + bits, x.select(0, rank), i);
                rank++;
            }
            if (i < bits) {
                due.is("bit(" + i + ")", x.bit(0, i), ones[i] ? 1 : 0);
            }
        }
        due.is("rank behind the end", x.rank(0, bits + 1), BitAlmanac.BAD);
        due.is("rank(-1)", x.rank(0, -1), BitAlmanac.BAD);
        due.is("select one too many", x.select(0, rank), BitAlmanac.BAD);
        due.is("select(-1)", x.select(0, -1), BitAlmanac.BAD);
        due.is("bit behind the end", x.bit(0, bits), BitAlmanac.BAD);
        due.is("bit(-1)", x.bit(0, -1), BitAlmanac.BAD);
    }

    private static void flip() {
        Shelf x = new Shelf();
        x.row(0, 600);
        due.is("flip to 0 what is 0", x.flip(0, 5, false), 0);
        due.is("flip to 1", x.flip(0, 5, true), 0);
        due.is("flip to 1 again", x.flip(0, 5, true), 1);
        due.is("one 1", x.rank(0, 600), 1);
        due.is("no second 1", x.select(0, 1), BitAlmanac.BAD);
        due.is("flip to 0", x.flip(0, 5, false), 1);
        due.is("no 1", x.rank(0, 600), 0);
        due.is("flip(600)", x.flip(0, 600, true), BitAlmanac.BAD);
        due.is("flip(-1)", x.flip(0, -1, true), BitAlmanac.BAD);
        x.lose(0, 0);
        due.is("flip, A lost", x.flip(0, 599, true), 0);
        due.is("A stays lost", x.rank(0, 0), BitAlmanac.MISSING);
        due.is("only A", x.mend(0), 1);
        due.is("select when mended", x.select(0, 0), 599);
        due.is("rank when mended", x.rank(0, 600), 1);
        x.lose(0, 1);
        x.flip(0, 1, true);
        due.is("B stays lost", x.mend(0), 1);
        due.is("select when mended", x.select(0, 1), 599);
    }

    private static void loseAndMend() {
        Shelf x = new Shelf();
        x.row(0, 100);
        x.flip(0, 70, true);
        due.is("lose -1", x.lose(0, -1), BitAlmanac.BAD);
        due.is("lose 2", x.lose(0, 2), BitAlmanac.BAD);
        due.is("mend nothing lost", x.mend(0), 0);
        for (int which = 0; which <= 1; which++) {
            due.is("lose", x.lose(0, which), 1);
            due.is("lose again", x.lose(0, which), 0);
            due.is("rank", x.rank(0, 71), BitAlmanac.MISSING);
            due.is("wrong rank", x.rank(0, 101), BitAlmanac.BAD);
            due.is("select", x.select(0, 0), BitAlmanac.MISSING);
            due.is("wrong select", x.select(0, 1), BitAlmanac.BAD);
            due.is("bit", x.bit(0, 70), 1);
            due.is("count", x.count(0), 100);
            due.is("mend", x.mend(0), 1);
            due.is("mend again", x.mend(0), 0);
            due.is("rank when mended", x.rank(0, 71), 1);
        }
        x.lose(0, 0);
        x.lose(0, 1);
        due.is("mend both", x.mend(0), 2);
        due.is("select when mended", x.select(0, 0), 70);
        for (int kind = 2; kind <= 5; kind++) {
            x.bound(1, kind, "abcdefgh");
            due.is("lose a book's A", x.lose(1, 0), 1);
            due.is("rank", x.rank(1, 0), BitAlmanac.MISSING);
            due.is("lose a book's B", x.lose(1, 1), 1);
            due.is("bit", x.bit(1, x.about(1, 1) - 1), 0);
            due.is("mend a book", x.mend(1), 2);
            due.is("rank when mended", x.rank(1, 0), 0);
        }
    }

    private static void mendAfterFlips() {
        StringBuilder bits = new StringBuilder("0".repeat(2000));
        for (int i = 0; i < 2000; i += 45) {
            bits.setCharAt(i, '1');
        }
        for (int which = 0; which <= 2; which++) {
            Shelf x = new Shelf();
            x.row(0, 2000);
            x.flip(0, 3, true);
            x.lose(0, which % 2);
            x.lose(0, which == 2 ? 1 : which);
            for (int i = 0; i < 2000; i += 45) {
                x.flip(0, i, true);
            }
            x.flip(0, 3, false);
            due.is("mend", x.mend(0), which == 2 ? 2 : 1);
            ranksAre(x, bits.toString(), 16, 1);
        }
    }

    /** Some ranks and selects of place 0, beside those that the bits have. */
    private static void ranksAre(Shelf x, String bits, int rankStep, int selectStep) {
        int ones = 0;
        for (int i = 0; i < bits.length(); i++) {
            if (i % rankStep == 0) {
                due.is("rank(" + i + ")", x.rank(0, i), ones);
            }
            if (bits.charAt(i) == '1') {
                if (ones % selectStep == 0) {
                    due.is("select(" + ones + ")", x.select(0, ones), i);
                }
                ones++;
            }
        }
        due.is("rank of the end", x.rank(0, bits.length()), ones);
        due.is("select of the last", x.select(0, ones - 1), bits.lastIndexOf('1'));
    }

    private static void forkedRow() {
        Shelf x = new Shelf();
        x.bound(0, 2, "ab", "abc", "b", "bxy", "bz");
        // root: a b; a: b; b: x z; ab: c; bx: y; bz; abc; bxy
        due.isText("the row", x.bookBits(0), "11010" + "1101010" + "0" + "00");
        due.is("its edges", x.about(0, 2), 7);
        due.is("rank(5)", x.rank(0, 5), 3);
        due.is("select(6)", x.select(0, 6), 10);
        due.is("no select(7)", x.select(0, 7), BitAlmanac.BAD);
        x.bound(0, 2, "abcdefghijklmnopqrstuvwx");
        due.isText("a single name", x.bookBits(0), "10".repeat(24) + "0");
    }

    private static void largestForkedRow() {
        String[] names = Names.ofMostNodes();
        String bits = "1".repeat(100) + "0" + "10".repeat(2300) + "0".repeat(100);
        Shelf x = new Shelf().bound(0, 2, names);
        due.is("edges", x.about(0, 2), 2400);
        due.is("bytes of edges", x.about(0, 3), 2400);
        due.is("ends", x.about(0, 4), 100);
        due.is("table numbers", x.about(0, 7), 10 + 76);
        due.is("witness", x.fed(names[99]).witness(0), 1);
        due.is("the last node", x.told(73), 2400);
        ranksAre(x, bits, 128, 64);
        for (int from = 0; from < bits.length(); from += 100) {
            x = new Shelf().bound(0, 2, names);
            int to = Math.min(bits.length(), from + 100);
            due.isText("the row from " + from, x.bits(0, from, to), bits.substring(from, to));
        }
    }

    private static void pairedRow() {
        Shelf x = new Shelf();
        for (int kind = 3; kind <= 4; kind++) {
            x.bound(0, kind, "ab", "abc", "b", "bxy", "bz");
            // root: ab b; ab: c; b: xy z; abc; bxy; bz
            due.isText("the row", x.bookBits(0), "110" + "10" + "110" + "0" + "0" + "0");
            due.is("its edges", x.about(0, 2), 5);
            x.bound(0, kind, "abcdef");
            due.isText("a single name", x.bookBits(0), "100");
            x.bound(0, kind, "abcx", "abcyq", "abcyr");
            // root: abc; abc: x y; abcx; abcy: q r
            due.isText("a fork that is no end", x.bookBits(0), "10" + "110" + "0" + "110" + "0" + "0");
            due.is("bytes of its strings", x.about(0, 3), 7);
        }
    }

    private static void splitRow() {
        Shelf x = new Shelf();
        x.bound(0, 5, "\u0001aaaaaaa", "\u0041bbbbbbb", "\u0042bbbbbbb", "\u00ffbbbbbbb");
        // four names: h is 3; high parts 0, 2, 2, 7
        due.isText("the row", x.bookBits(0), "10" + "0" + "110" + "0" + "0" + "0" + "0" + "10");
        due.is("low bits", x.about(0, 5), 4 * 61);
        x.bound(0, 5, "\u0080aaaaaaa");
        due.isText("one name: h is 1", x.bookBits(0), "010");
        due.is("low bits", x.about(0, 5), 63);
        x.bound(0, 5, "\u0041aaaaaaa", "\u00c0aaaaaaa", "\u0001aaaaaaa");
        due.isText("three names: h is 2", x.bookBits(0), "10" + "10" + "0" + "10");
    }

    private static void largestSplitRow() {
        // h is 7: name i has the high part i
        String bits = "10".repeat(100) + "0".repeat(28);
        Shelf x = new Shelf().bound(0, 5, Names.ofEightBytes(100));
        due.isText("the row", x.bookBits(0), bits);
        due.is("low bits", x.about(0, 5), 5700);
        ranksAre(x, bits, 8, 4);
        x = new Shelf().bound(0, 5, Names.ofEightBytes(63));
        due.is("63 names: h is 6", x.about(0, 1), 63 + 64);
        x.bound(0, 5, Names.ofEightBytes(64));
        due.is("64 names: h is 7", x.about(0, 1), 64 + 128);
    }

    private static void aboutIs(Shelf x, int... want) {
        for (int what = 0; what < want.length; what++) {
            due.is("about " + what + " of kind " + want[0], x.about(0, what), want[what]);
        }
    }

    private static void aboutKinds() {
        Shelf x = new Shelf();
        String[] names = {"abcdefgh", "abcdefgx", "abcdxfgh"};
        x.bound(0, 1, names);
        aboutIs(x, 1, 0, 0, 24, 0, 0, 1, 0);
        x.bound(0, 2, names);
        aboutIs(x, 2, 27, 13, 13, 3, 0, 1, 2);
        x.bound(0, 3, names);
        aboutIs(x, 3, 11, 5, 13, 3, 0, 1, 2);
        x.bound(0, 4, names);
        aboutIs(x, 4, 11, 5, 13, 3, 0, 1, 2);
        x.bound(0, 5, names);
        aboutIs(x, 5, 7, 0, 0, 0, 3 * 62, 1, 2);
    }

    private static void aboutFolded() {
        Shelf x = new Shelf();
        String[] names = {"aing", "axed", "bing", "bxed", "cing", "ce", "ings", "ing"};
        x.bound(0, 3, names);
        // a b c ing; ing xed, ing xed, e ing, s
        due.is("PAIRED: all strings", x.about(0, 3), 6 + 6 + 6 + 4 + 1);
        x.bound(0, 4, names);
        due.is("FOLDED: each once", x.about(0, 3), 6 + 3 + 1 + 1);
        due.is("its edges stay", x.about(0, 2), 11);
        x.bound(0, 4, "aab", "aac", "bab", "bac");
        due.is("a string within another is another one", x.about(0, 3), 2 + 2 + 1 + 1);
    }

    private static void aboutWidth() {
        long[] values = {0, 127, -128, 128, -129, 32767, -32768, 32768, -32769, Integer.MAX_VALUE,
            Integer.MIN_VALUE, Integer.MAX_VALUE + 1L, Integer.MIN_VALUE - 1L, Long.MAX_VALUE, Long.MIN_VALUE};
        int[] widths = {1, 1, 1, 2, 2, 2, 2, 4, 4, 4, 4, 8, 8, 8, 8};
        for (int i = 0; i < values.length; i++) {
            Shelf x = new Shelf();
            x.draft(0);
            x.taped("a").put(0, 0);
            x.taped("b").put(0, values[i]);
            x.taped("c").put(0, 1);
            x.seal(0, 0, 1 + i % 4);
            due.is("width of " + values[i], x.about(0, 6), widths[i]);
        }
    }

    private static void aboutTables() {
        Shelf x = new Shelf();
        x.draft(1);
        for (char c = 'a'; c <= 'p'; c++) {
            x.taped(c + "bcdefghijklmnop").put(1, 0);
        }
        x.seal(1, 0, 2);
        due.is("bits", x.about(0, 1), 513);
        due.is("both tables", x.about(0, 7), 2 + 9);
        x.lose(0, 0);
        due.is("B alone", x.about(0, 7), 9);
        x.lose(0, 1);
        due.is("none", x.about(0, 7), 0);
        due.is("the rest is told all the same", x.about(0, 1), 513);
        x.mend(0);
        x.lose(0, 1);
        due.is("A alone", x.about(0, 7), 2);
        x.mend(0);
        due.is("rank of the end", x.rank(0, 513), 256);
    }
}
