/** The limits in "What it is" and "Terms", each at its edge. */
public final class EdgesOfTermsTest {
    private static final Due due = new Due("EdgesOfTermsTest");
    private static final String LONGEST = Names.LONGEST;

    public static void main(String[] args) {
        tapeBytes();
        calls();
        nameBytes();
        nameByteZero();
        orderWithoutSign();
        orderOfTheFirstThatDiffer();
        orderOfBeginnings();
        draftNamesOnce();
        draftNamesAtMost();
        draftValues();
        ranks();
        selects();
        tableA();
        tableB();
        tablesOfBooks();
        lostTables();
        places();
        due.end();
    }

    private static void tapeBytes() {
        due.sentence(0, "THE TAPE has at most 1000 bytes.");
        for (int n = 1; n <= 8; n++) {
            Shelf x = filled(1000 - n);
            due.is("feed " + n + " bytes up to 1000", x.feed(-1L, n), 1000);
            x = filled(1001 - n);
            due.is("feed " + n + " bytes up to 1001", x.feed(-1L, n), BitAlmanac.FULL);
        }
    }

    private static Shelf filled(int bytes) {
        return new Shelf().fed("t".repeat(bytes));
    }

    private static void calls() {
        due.sentence(0, "An object is used for at most 512 calls after it has been made; what later calls answer is free.");
        Shelf x = new Shelf();
        for (int i = 1; i <= 512; i++) {
            due.is("call " + i + ", row(" + i % 10 + ", 4000)", x.row(i % 10, 4000), 4000);
        }
        due.is("calls", x.calls(), 512);
        x = new Shelf().drafted(0, Names.ofMostNodes());
        for (int i = x.calls() + 1; i <= 512; i++) {
            due.is("call " + i + ", to seal 2400 edges", x.seal(0, i % 9 + 1, 2), 100);
        }
        x = new Shelf().bound(1, 2, "abcdefgh");
        while (x.calls() <= 510) {
            due.is("image, behind call " + x.calls(), x.image(1), 14);
            due.is("load, behind call " + x.calls(), x.load(1), 1);
        }
    }

    private static int ask(Reading act, String tape) {
        Shelf x = new Shelf().drafted(0, "m").bound(1, 2, "m");
        return act.ask(x.fed(tape), act.isForDrafts() ? 0 : 1);
    }

    private static void taken(Reading act, String what, String tape) {
        due.isTrue(act + " takes " + what, ask(act, tape) != BitAlmanac.BAD);
    }

    private static void refused(Reading act, String what, String tape) {
        due.is(act + " of " + what, ask(act, tape), BitAlmanac.BAD);
    }

    private static void nameBytes() {
        due.sentence(0, "A NAME has 1 .. 24 bytes (0 .. 255)");
        for (Reading act : Reading.values()) {
            refused(act, "no bytes", "");
            taken(act, "1 byte", "a");
            taken(act, "24 bytes", LONGEST);
            refused(act, "25 bytes", LONGEST + "y");
            refused(act, "1000 bytes", "a".repeat(1000));
            taken(act, "a byte 1", "\u0001");
            taken(act, "a byte 127", "\u007f");
            taken(act, "a byte 128", "\u0080");
            taken(act, "a byte 255", "\u00ff");
        }
    }

    private static void nameByteZero() {
        due.sentence(0, "none of them 0.");
        for (Reading act : Reading.values()) {
            refused(act, "a byte 0 alone", "\0");
            refused(act, "a byte 0 ahead", "\0a");
            refused(act, "a byte 0 within", "a\0b");
            refused(act, "a byte 0 behind", "a\0");
            refused(act, "a byte 0 behind 23", LONGEST.substring(1) + "\0");
        }
    }

    /** The names of a book of each kind in the order of their numbers; for SPLIT they are filled up to 8 bytes. */
    private static void orderIs(String names, String... given) {
        for (int kind = 1; kind <= 4; kind++) {
            Shelf x = new Shelf().bound(0, kind, given);
            StringBuilder found = new StringBuilder();
            for (int k = 0; k < given.length; k++) {
                found.append(k == 0 ? "" : " ").append(x.readName(0, k));
            }
            due.isText("the order in kind " + kind, found.toString(), names);
        }
    }

    private static void orderWithoutSign() {
        due.sentence(0, "NAMES are in the order of their bytes without sign");
        orderIs("\u0001 \u007f \u0080 \u00ff", "\u0080", "\u00ff", "\u0001", "\u007f");
        orderIs("a\u007f a\u0080 a\u00ff", "a\u00ff", "a\u0080", "a\u007f");
        Shelf x = new Shelf().bound(0, 5, "\u0080aaaaaaa", "\u007faaaaaaa", "\u00ffaaaaaaa", "\u0001aaaaaaa");
        due.isText("the order in SPLIT", x.listed(0),
            "\u0001aaaaaaa=3 \u007faaaaaaa=1 \u0080aaaaaaa=0 \u00ffaaaaaaa=2");
        due.is("number of 127", x.taped("\u007faaaaaaa").number(0), 1);
        due.is("below 128", x.fed("\u0080").below(0), 2);
        due.is("below 127", x.fed("\u007f").below(0), 1);
    }

    private static void orderOfTheFirstThatDiffer() {
        due.sentence(0, "the first that differ");
        orderIs("a\u00ff b\u0001", "b\u0001", "a\u00ff");
        orderIs("azzz b", "b", "azzz");
        orderIs("xay xbx", "xbx", "xay");
        Shelf x = new Shelf().bound(0, 5, "aaaaaabz", "aaaaabaa", "aaaaaaaz", "aaaaaaca");
        due.isText("the order in SPLIT", x.listed(0), "aaaaaaaz=2 aaaaaabz=0 aaaaaaca=3 aaaaabaa=1");
    }

    private static void orderOfBeginnings() {
        due.sentence(0, "one that is the beginning of another one comes ahead of it.");
        orderIs("a a\u0001 ab", "ab", "a", "a\u0001");
        orderIs(LONGEST.substring(0, 23) + " " + LONGEST, LONGEST, LONGEST.substring(0, 23));
        Shelf x = new Shelf().bound(0, 5, "aaaaaaaa", "aaaaaaab");
        due.is("ahead of a beginning", x.fed("aaaaaaa").below(0), 0);
        due.is("ahead of what goes on", x.fed("aaaaaaaa\u0001").below(0), 1);
        due.is("number of a beginning", x.fed("aaaaaaa").number(0), BitAlmanac.NONE);
    }

    private static void draftNamesOnce() {
        due.sentence(0, "A DRAFT has NAMES, each once");
        Shelf x = new Shelf().drafted(0, "a", "b", "a", "b", "a");
        due.is("names", x.count(0), 2);
        x.seal(0, 1, 1);
        due.isText("each once, with its latest value", x.listed(1), "a=4 b=3");
    }

    private static void draftNamesAtMost() {
        due.sentence(0, "100 at most");
        Shelf x = new Shelf();
        x.draft(0);
        for (int i = 1; i <= 100; i++) {
            due.is("put name " + i, x.fed("n" + (char) i).put(0, i), 1);
        }
        due.is("put name 101", x.fed("n" + (char) 101).put(0, 1), BitAlmanac.FULL);
        due.is("names", x.count(0), 100);
        due.is("put name 1 again", x.fed("n" + (char) 1).put(0, 1), 0);
        due.is("take out name 100", x.fed("n" + (char) 100).unput(0), 1);
        due.is("there is room for one", x.fed("n" + (char) 101).put(0, 1), 1);
        due.is("and for no more", x.fed("n" + (char) 100).put(0, 1), BitAlmanac.FULL);
    }

    private static void draftValues() {
        due.sentence(0, "each with a VALUE, a long.");
        long[] values = {Long.MIN_VALUE, Long.MIN_VALUE + 1, -1, 0, 1, Long.MAX_VALUE - 1, Long.MAX_VALUE};
        Shelf x = new Shelf();
        x.draft(0);
        for (int i = 0; i < values.length; i++) {
            x.fed("n" + i).put(0, values[i]);
        }
        for (int kind = 1; kind <= 4; kind++) {
            x.seal(0, kind, kind);
            for (int i = 0; i < values.length; i++) {
                due.is("value " + i + " in kind " + kind, x.value(kind, i), values[i]);
            }
        }
    }

    private static void ranks() {
        due.sentence(0, "RANK(i), i from 0 to how many BITS it has: how many 1s lie ahead of BIT i");
        for (int bits : new int[] {1, 63, 64, 65, 127, 128, 511, 512, 513, 1023, 1024, 1025, 3999, 4000}) {
            Shelf x = new Shelf();
            x.row(0, bits);
            x.flip(0, 0, true);
            due.is("rank(0) with bit 0", x.rank(0, 0), 0);
            due.is("rank(1) with bit 0", x.rank(0, 1), 1);
            x.flip(0, 0, false);
            x.flip(0, bits - 1, true);
            due.is("rank ahead of the last of " + bits, x.rank(0, bits - 1), 0);
            due.is("rank of the end of " + bits, x.rank(0, bits), 1);
            due.is("rank behind the end of " + bits, x.rank(0, bits + 1), BitAlmanac.BAD);
            due.is("rank(-1)", x.rank(0, -1), BitAlmanac.BAD);
        }
        Shelf x = new Shelf();
        x.row(0, 0);
        due.is("rank(0) without bits", x.rank(0, 0), 0);
        due.is("rank(1) without bits", x.rank(0, 1), BitAlmanac.BAD);
    }

    private static void selects() {
        due.sentence(0, "SELECT(k): which BIT is the k-th 1, from 0 on.");
        int[] ones = {0, 62, 63, 64, 65, 447, 448, 510, 511, 512, 513, 575, 576, 1023, 1024, 3583, 3584, 3998, 3999};
        Shelf x = new Shelf();
        x.row(0, 4000);
        due.is("select(0) without 1s", x.select(0, 0), BitAlmanac.BAD);
        for (int one : ones) {
            x.flip(0, one, true);
        }
        for (int k = 0; k < ones.length; k++) {
            due.is("select(" + k + ")", x.select(0, k), ones[k]);
        }
        due.is("select one too many", x.select(0, ones.length), BitAlmanac.BAD);
        due.is("select(-1)", x.select(0, -1), BitAlmanac.BAD);
    }

    /** A FORKED book of so many edges has 2 edges + 1 bits; its names have no beginning in common. */
    private static Shelf forkedWithEdges(int edges) {
        String[] names = new String[(edges + 23) / 24];
        for (int i = 0; i < names.length; i++) {
            names[i] = String.valueOf((char) (i + 1)).repeat(Math.min(24, edges - 24 * i));
        }
        return new Shelf().bound(0, 2, names);
    }

    /** How many numbers the tables have, one of them lost. */
    private static void tablesHave(int edges, int numbersOfA, int numbersOfB) {
        Shelf x = forkedWithEdges(edges);
        int bits = 2 * edges + 1;
        due.is("bits", x.about(0, 1), bits);
        due.is("both tables of " + bits + " bits", x.about(0, 7), numbersOfA + numbersOfB);
        x.lose(0, 1);
        due.is("A of " + bits + " bits", x.about(0, 7), numbersOfA);
        x.mend(0);
        x.lose(0, 0);
        due.is("B of " + bits + " bits", x.about(0, 7), numbersOfB);
    }

    private static void tableA() {
        due.sentence(0, "A, for each j from 0 to (BITS) / 512 (cut): RANK(512 j)");
        tablesHave(1, 1, 1);
        tablesHave(255, 1, 8);
        tablesHave(256, 2, 9);
        tablesHave(511, 2, 16);
        tablesHave(512, 3, 17);
        tablesHave(2400, 10, 76);
    }

    private static void tableB() {
        due.sentence(0, "B, for each j from 0 to (BITS) / 64: RANK(64 j) less RANK(512 (j / 8)).");
        tablesHave(31, 1, 1);
        tablesHave(32, 1, 2);
        tablesHave(63, 1, 2);
        tablesHave(64, 1, 3);
        // 64 names of SPLIT have 64 + 128 bits, just three times 64
        Shelf x = new Shelf().bound(0, 5, Names.ofEightBytes(64));
        due.is("bits", x.about(0, 1), 192);
        due.is("tables of 192 bits", x.about(0, 7), 1 + 4);
    }

    /** Ranks and selects on both sides of each bound of a table, in a row that a book has. */
    private static void ranksAre(boolean mended, String bits, int kind, String... names) {
        Shelf x = null;
        for (int bound = 0; bound <= bits.length(); bound += bound < 512 ? 64 : 256) {
            if (x == null || x.calls() > 490) {
                x = new Shelf().bound(0, kind, names);
                if (mended) {
                    x.lose(0, 0);
                    x.lose(0, 1);
                    x.mend(0);
                }
            }
            for (int i = Math.max(0, bound - 1); i <= Math.min(bits.length(), bound + 1); i++) {
                int rank = onesIn(bits.substring(0, i));
                due.is("rank(" + i + ")", x.rank(0, i), rank);
                int one = bits.indexOf('1', i);
                due.is("select(" + rank + ")", x.select(0, rank), one >= 0 ? one : BitAlmanac.BAD);
            }
        }
        due.is("bits", x.about(0, 1), bits.length());
        due.is("rank of the end", x.rank(0, bits.length()), onesIn(bits));
        due.is("select of the last", x.select(0, onesIn(bits) - 1), bits.lastIndexOf('1'));
    }

    private static int onesIn(String bits) {
        return (int) bits.chars().filter(b -> b == '1').count();
    }

    private static void tablesOfBooks() {
        due.sentence(0, "RANK(512 j); B, for each j from 0 to (BITS) / 64: RANK(64 j) less RANK(512 (j / 8)).");
        String forked = "1".repeat(100) + "0" + "10".repeat(2300) + "0".repeat(100);
        String paired = "1".repeat(100) + "0".repeat(101);
        for (boolean mended : new boolean[] {false, true}) {
            ranksAre(mended, forked, 2, Names.ofMostNodes());
            ranksAre(mended, paired, 3, Names.ofMostNodes());
            ranksAre(mended, paired, 4, Names.ofMostNodes());
            ranksAre(mended, "10".repeat(100) + "0".repeat(28), 5, Names.ofEightBytes(100));
        }
    }

    private static void lostTables() {
        due.sentence(0, "A TABLE may be LOST; it is then as if it were not, till it is mended.");
        for (int which = 0; which <= 1; which++) {
            Shelf x = new Shelf();
            x.row(0, 100);
            x.flip(0, 99, true);
            due.is("rank with both", x.rank(0, 100), 1);
            x.lose(0, which);
            due.is("rank without", x.rank(0, 100), BitAlmanac.MISSING);
            due.is("select without", x.select(0, 0), BitAlmanac.MISSING);
            x.mend(0);
            due.is("rank when mended", x.rank(0, 100), 1);
            due.is("select when mended", x.select(0, 0), 99);
        }
    }

    private static void places() {
        due.sentence(0, "PLACES 0 .. 9 each hold NOTHING (at first), a DRAFT, a BOOK or a BARE ROW.");
        Shelf x = new Shelf();
        for (int p = 0; p <= 9; p++) {
            due.is("kind(" + p + ") at first", x.kind(p), 0);
            due.is("draft(" + p + ")", x.draft(p), 0);
            due.is("kind of it", x.kind(p), 6);
            due.is("row(" + p + ", 1)", x.row(p, 1), 1);
            due.is("kind of it", x.kind(p), 7);
            x.bound(p, 3, "a");
            due.is("kind of it", x.kind(p), 3);
        }
        due.is("kind(-1)", x.kind(-1), BitAlmanac.BEYOND);
        due.is("kind(10)", x.kind(10), BitAlmanac.BEYOND);
        due.is("draft(-1)", x.draft(-1), BitAlmanac.BEYOND);
        due.is("draft(10)", x.draft(10), BitAlmanac.BEYOND);
        due.is("row(-1, 1)", x.row(-1, 1), BitAlmanac.BEYOND);
        due.is("row(10, 1)", x.row(10, 1), BitAlmanac.BEYOND);
    }
}
