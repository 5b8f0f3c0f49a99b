/** What the document tells of books and their kinds, each at its edge. */
public final class EdgesOfKindsTest {
    private static final Due due = new Due("EdgesOfKindsTest");
    private static final String LONGEST = Names.LONGEST;

    public static void main(String[] args) {
        oneNameAtLeast();
        numberedInOrder();
        widths();
        widthOfEachValue();
        plain();
        forkedNodes();
        forkedNumbers();
        forkedRow();
        forkedEdgeBytes();
        forkedEnds();
        pairedNodes();
        pairedLevels();
        pairedStrings();
        foldedStrings();
        splitNames();
        splitHighest();
        splitBits();
        splitRow();
        due.end();
    }

    private static void oneNameAtLeast() {
        due.sentence(0, "A BOOK has the NAMES of a DRAFT, one at least, with their VALUES");
        for (int kind = 1; kind <= 5; kind++) {
            Shelf x = new Shelf();
            x.draft(0);
            due.is("seal no names, kind " + kind, x.seal(0, 1, kind), BitAlmanac.BAD);
            x.fed("abcdefgh").put(0, -9);
            due.is("seal one name, kind " + kind, x.seal(0, 1, kind), 1);
            due.isText("the book of it", x.listed(1), "abcdefgh=-9");
        }
    }

    private static void numberedInOrder() {
        due.sentence(0, "numbered from 0 on in their order.");
        for (int kind = 1; kind <= 5; kind++) {
            Shelf x = new Shelf().bound(0, kind, "cccccccc", "aaaaaaaa", "bbbbbbbb");
            due.is("number of the first", x.fed("aaaaaaaa").number(0), 0);
            due.is("number of the last", x.fed("cccccccc").number(0), 2);
            due.isText("name 0", x.readName(0, 0), "aaaaaaaa");
            due.isText("name 2", x.readName(0, 2), "cccccccc");
            due.is("name -1", x.name(0, -1), BitAlmanac.BAD);
            due.is("name 3", x.name(0, 3), BitAlmanac.BAD);
        }
    }

    private static int width(int kind, long... values) {
        Shelf x = new Shelf();
        x.draft(0);
        for (int i = 0; i < values.length; i++) {
            x.fed("name000" + i).put(0, values[i]);
        }
        x.seal(0, 0, kind);
        return x.about(0, 6);
    }

    private static void widths() {
        due.sentence(0, "WIDTH is the least of 1, 2, 4, 8 bytes of two's complement");
        for (int kind = 1; kind <= 5; kind++) {
            due.is("width of 0", width(kind, 0), 1);
            due.is("width of -1", width(kind, -1), 1);
            long bound = 1L << 7;
            for (int bytes = 1; bytes <= 4; bytes *= 2) {
                due.is("width of " + (bound - 1), width(kind, bound - 1), bytes);
                due.is("width of " + bound, width(kind, bound), 2 * bytes);
                due.is("width of " + -bound, width(kind, -bound), bytes);
                due.is("width of " + (-bound - 1), width(kind, -bound - 1), 2 * bytes);
                bound = bytes == 1 ? 1L << 15 : 1L << 31;
            }
            due.is("width of 2^24", width(kind, 1L << 24), 4);
            due.is("width of 2^40", width(kind, 1L << 40), 8);
            due.is("width of the most", width(kind, Long.MAX_VALUE), 8);
            due.is("width of the least", width(kind, Long.MIN_VALUE), 8);
        }
    }

    private static void widthOfEachValue() {
        due.sentence(0, "that take each VALUE.");
        due.is("width of 127 and -128", width(1, 127, -128), 1);
        due.is("width of 127 and 128", width(2, 127, 128), 2);
        due.is("width of -129 and 127", width(3, -129, 127), 2);
        due.is("width of 1, 2^31 and 1", width(4, 1, 1L << 31, 1), 8);
        due.is("width of 40000, 1 and 300", width(5, 40000, 1, 300), 4);
        due.is("width of 300, 1 and 40000", width(5, 300, 1, 40000), 4);
    }

    private static void aboutIs(Shelf x, int p, int what, int want) {
        due.is("about(" + p + ", " + what + ")", x.about(p, what), want);
    }

    private static void plain() {
        due.sentence(0, "1 PLAIN: the NAMES' bytes one behind the other, and where each begins.");
        Shelf x = new Shelf().bound(0, 1, "a");
        aboutIs(x, 0, 3, 1);
        x.bound(0, 1, LONGEST);
        aboutIs(x, 0, 3, 24);
        x.bound(0, 1, "abc", "abd", "ab", "abc");
        aboutIs(x, 0, 3, 8);
        String[] names = new String[100];
        for (int i = 0; i < 100; i++) {
            names[i] = LONGEST.substring(1) + (char) (i + 1);
        }
        x = new Shelf().bound(0, 1, names);
        aboutIs(x, 0, 3, 2400);
        due.isText("the first", x.readName(0, 0), names[0]);
        due.isText("the last", x.readName(0, 99), names[99]);
    }

    private static void forkedNodes() {
        due.sentence(0, "A node stands for what NAMES begin with (also for a whole NAME): the root for nothing, "
            + "an EDGE with a byte leads from a node to that for one byte more.");
        Shelf x = new Shelf().bound(0, 2, "a");
        aboutIs(x, 0, 2, 1);
        aboutIs(x, 0, 1, 3);
        x.bound(0, 2, LONGEST);
        aboutIs(x, 0, 2, 24);
        aboutIs(x, 0, 1, 49);
        x.bound(0, 2, "abc", "abd", "ab");
        aboutIs(x, 0, 2, 4);
        x.bound(0, 2, "abc", "xbc");
        aboutIs(x, 0, 2, 6);
    }

    private static void wayIs(Shelf x, String name, String way) {
        x.fed(name).witness(0);
        due.isText("the way down of " + name, x.readWitness(), way);
    }

    private static void forkedNumbers() {
        due.sentence(0, "Nodes are numbered from 0 on, level by level, within a level by the order of what they "
            + "stand for; EDGE i leads to node i + 1.");
        // level 1: a b \u00ff; level 2: ax ay bx; level 3: bxx
        Shelf x = new Shelf().bound(0, 2, "\u00ff", "bxx", "ay", "ax");
        wayIs(x, "c", "-1 0 0");
        wayIs(x, "a", "0 0 97 -1 1 0");
        wayIs(x, "b", "1 1 98 -1 2 0");
        wayIs(x, "\u00ff", "2 2 255 -1 3 1");
        wayIs(x, "ax", "0 0 97 4 3 120 -1 4 1");
        wayIs(x, "ay", "0 0 97 5 4 121 -1 5 1");
        wayIs(x, "bx", "1 1 98 7 5 120 -1 6 0");
        wayIs(x, "bxx", "1 1 98 7 5 120 12 6 120 -1 7 1");
    }

    private static void forkedRow() {
        due.sentence(0, "Its ROW: of each node, in this order, as many 1s as EDGES lead from it, then a 0.");
        Shelf x = new Shelf().bound(0, 2, "a");
        due.isText("one name of one byte", x.bookBits(0), "10" + "0");
        x.bound(0, 2, "a", "b");
        due.isText("two names", x.bookBits(0), "110" + "0" + "0");
        x.bound(0, 2, "a", "ab");
        due.isText("a beginning", x.bookBits(0), "10" + "10" + "0");
        x.bound(0, 2, "\u00ff", "bxx", "ay", "ax");
        due.isText("three levels", x.bookBits(0), "1110" + "110" + "10" + "0" + "0" + "0" + "10" + "0");
        String[] names = new String[100];
        for (int i = 0; i < 100; i++) {
            names[i] = String.valueOf((char) (i + 156));
        }
        x = new Shelf().bound(0, 2, names);
        due.isText("a root with 100 edges", x.bookBits(0), "1".repeat(100) + "0".repeat(101));
    }

    private static void forkedEdgeBytes() {
        due.sentence(0, "A byte for each EDGE, in their order.");
        Shelf x = new Shelf().bound(0, 2, "a");
        aboutIs(x, 0, 3, 1);
        x.bound(0, 2, "\u00ff", "bxx", "ay", "ax");
        aboutIs(x, 0, 3, 7);
        wayIs(x, "\u00ff\u0001", "2 2 255 -1 3 0");
    }

    private static void forkedEnds() {
        due.sentence(0, "An END (1) for each node that stands for a NAME.");
        Shelf x = new Shelf().bound(0, 2, "a", "abc");
        aboutIs(x, 0, 4, 2);
        wayIs(x, "a", "0 0 97 -1 1 1");
        wayIs(x, "ab", "0 0 97 2 1 98 -1 2 0");
        wayIs(x, "abc", "0 0 97 2 1 98 4 2 99 -1 3 1");
    }

    private static void pairedIs(String row, int strings, String... names) {
        Shelf x = new Shelf().bound(0, 3, names);
        due.isText("the row of " + String.join(" ", names), x.bookBits(0), row);
        aboutIs(x, 0, 3, strings);
        aboutIs(x, 0, 4, names.length);
        aboutIs(x, 0, 2, (row.length() - 1) / 2);
        x.bound(0, 4, names);
        due.isText("FOLDED, of " + String.join(" ", names), x.bookBits(0), row);
    }

    private static void pairedNodes() {
        due.sentence(0, "a TREE of just those nodes of FORKED's that are the root, END, or have two EDGES or more");
        // the root stays with one edge only; ab has one edge and is no end
        pairedIs("10" + "0", 3, "abc");
        pairedIs("10" + "0", 24, LONGEST);
        // ab is an end with one edge
        pairedIs("10" + "10" + "0", 3, "abc", "ab");
        // ab is no end, with two edges
        pairedIs("10" + "110" + "0" + "0", 4, "abc", "abd");
        // ab is an end with two edges
        pairedIs("10" + "110" + "0" + "0", 4, "abc", "abd", "ab");
        // the root alone has two
        pairedIs("110" + "0" + "0", 4, "ab", "xy");
    }

    private static void pairedLevels() {
        due.sentence(0, "numbered, with EDGES, ROW and ENDS, likewise (level by level of this TREE)");
        // root: abc x; abc: d efg; x; then below abcefg: h i, though x is at the first byte
        pairedIs("110" + "110" + "10" + "0" + "110" + "0" + "0" + "0", 3 + 1 + 1 + 3 + 2 + 4,
            "abcd", "abcefgh", "abcefgi", "x", "xyyyy");
    }

    private static void pairedStrings() {
        due.sentence(0, "an EDGE has a STRING, the bytes from node to node; STRINGS one behind the other, in the order "
            + "of EDGES.");
        Shelf x = new Shelf().bound(0, 3, "a", "ab", "abab", "b");
        aboutIs(x, 0, 3, 1 + 1 + 2 + 1);
        x.bound(0, 3, "xab", "yab");
        aboutIs(x, 0, 3, 6);
        due.is("a name by way of its strings", x.fed("yab").number(0), 1);
        due.is("a name that ends within a string", x.fed("ya").number(0), BitAlmanac.NONE);
        due.is("a name behind a string", x.fed("yabz").number(0), BitAlmanac.NONE);
        due.is("a string that differs at its end", x.fed("yac").number(0), BitAlmanac.NONE);
        due.is("names with a beginning within a string", x.fed("ya").prefix(0, true), 1);
    }

    private static void foldedIs(int strings, String... names) {
        Shelf x = new Shelf().bound(0, 4, names);
        due.is("bytes of strings of " + String.join(" ", names), x.about(0, 3), strings);
        due.is("names", x.about(0, 4), names.length);
        for (String name : names) {
            due.isTrue(name + " is there", x.taped(name).number(0) >= 0);
        }
    }

    private static void foldedStrings() {
        due.sentence(0, "like PAIRED, but a STRING that is that of an EDGE before is not there again "
            + "(that one's is used).");
        // root: x y; x: a b; y: a b
        foldedIs(2 + 2, "xa", "xb", "ya", "yb");
        // below another node, and longer by a byte: another string
        foldedIs(2 + 2 + 2, "xa", "xb", "yac", "yb");
        // the same at its beginning, or its end, is not the same
        foldedIs(2 + 5 + 4, "xpq", "xrst", "ypqr", "yq");
        // a string of the root's edge again below
        foldedIs(2, "ab", "b", "a");
        // on another level
        foldedIs(3 + 1, "abc", "z", "zabc");
        // three times the same
        foldedIs(3 + 2, "pst", "p", "qst", "q", "rst", "r");
    }

    private static void splitNames() {
        due.sentence(0, "5 SPLIT: only if all NAMES have 8 bytes.");
        due.is("8 bytes", new Shelf().drafted(0, "abcdefgh").seal(0, 1, 5), 1);
        due.is("7 bytes", new Shelf().drafted(0, "abcdefg").seal(0, 1, 5), BitAlmanac.BAD);
        due.is("9 bytes", new Shelf().drafted(0, "abcdefghi").seal(0, 1, 5), BitAlmanac.BAD);
        due.is("the first has 7", new Shelf().drafted(0, "aaaaaaa", "bbbbbbbb").seal(0, 1, 5), BitAlmanac.BAD);
        due.is("the last has 9", new Shelf().drafted(0, "aaaaaaaa", "bbbbbbbbb").seal(0, 1, 5), BitAlmanac.BAD);
        due.is("the middle one has 7", new Shelf().drafted(0, "aaaaaaaa", "bbbbbbb", "cccccccc").seal(0, 1, 5),
            BitAlmanac.BAD);
        due.is("all have 8", new Shelf().drafted(0, "aaaaaaaa", "bbbbbbbb", "cccccccc").seal(0, 1, 5), 3);
    }

    private static void splitHighest() {
        due.sentence(0, "A NAME is a number of 64 bits, its first byte the highest.");
        // two names: h is 2, so that the two highest bits of the first byte tell
        Shelf x = new Shelf().bound(0, 5, "\u0001\u00ff\u00ff\u00ff\u00ff\u00ff\u00ff\u00ff",
            "\u00ff\u0001\u0001\u0001\u0001\u0001\u0001\u0001");
        due.isText("high parts 0 and 3", x.bookBits(0), "10" + "0" + "0" + "10");
        x.bound(0, 5, "\u007f\u00ff\u00ff\u00ff\u00ff\u00ff\u00ff\u00ff", "\u0080\u0001\u0001\u0001\u0001\u0001\u0001\u0001");
        due.isText("high parts 1 and 2", x.bookBits(0), "0" + "10" + "10" + "0");
    }

    private static void splitBits() {
        due.sentence(0, "h is the least number with 2^h above the number of NAMES; a NAME's HIGH part are its highest "
            + "h bits, LOW the others.");
        int[] names = {1, 2, 3, 4, 7, 8, 15, 16, 31, 32, 63, 64, 100};
        int[] h = {1, 2, 2, 3, 3, 4, 4, 5, 5, 6, 6, 7, 7};
        for (int i = 0; i < names.length; i++) {
            Shelf x = new Shelf().bound(0, 5, Names.ofEightBytes(names[i]));
            due.is("bits with " + names[i] + " names", x.about(0, 1), names[i] + (1 << h[i]));
            due.is("low bits of " + names[i] + " names", x.about(0, 5), names[i] * (64 - h[i]));
        }
    }

    private static void splitRow() {
        due.sentence(0, "Its ROW: for each v = 0 .. 2^h - 1 as many 1s as NAMES have that HIGH part, then a 0.");
        Shelf x = new Shelf().bound(0, 5, "\u0001aaaaaaa");
        due.isText("high part 0 of 1 bit", x.bookBits(0), "10" + "0");
        x.bound(0, 5, "\u007faaaaaaa");
        due.isText("still 0", x.bookBits(0), "10" + "0");
        x.bound(0, 5, "\u0080aaaaaaa");
        due.isText("high part 1 of 1 bit", x.bookBits(0), "0" + "10");
        x.bound(0, 5, "\u00ffaaaaaaa", "\u00ffaaaaaab", "\u00ffaaaaaac");
        due.isText("all with the last high part", x.bookBits(0), "0" + "0" + "0" + "1110");
        x.bound(0, 5, "\u0001aaaaaaa", "\u0001aaaaaab", "\u0001aaaaaac", "\u001faaaaaaa");
        due.isText("all with the first one", x.bookBits(0), "11110" + "0".repeat(7));
        x.bound(0, 5, "\u001faaaaaaa", "\u0020aaaaaaa", "\u00dfaaaaaaa", "\u00e0aaaaaaa");
        due.isText("at both edges", x.bookBits(0), "10" + "10" + "0000" + "10" + "10");
        x = new Shelf().bound(0, 5, Names.ofEightBytes(100));
        due.isText("100 names", x.bookBits(0), "10".repeat(100) + "0".repeat(28));
    }
}
