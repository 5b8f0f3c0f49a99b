/** Promises 33 to 37, sentence by sentence, each at its edge. */
public final class EdgesOfWaysTest {
    private static final Due due = new Due("EdgesOfWaysTest");
    private static final String LONGEST = Names.LONGEST;
    private static final int LEAST = Integer.MIN_VALUE, MOST = Integer.MAX_VALUE;

    public static void main(String[] args) {
        witnessEdges();
        witnessNode();
        witnessOfTheLargest();
        witnessOther();
        witnessed();
        told();
        toldNone();
        forge();
        forgeBad();
        check();
        checkEachNumber();
        checkHowMany();
        checkOther();
        due.end();
    }

    /** The row is 110 10 110 10 10 0 0 0: root, a, b, ab, bx, bz, abc, bxy. */
    private static Shelf shelf() {
        return new Shelf().bound(0, 2, "ab", "abc", "b", "bxy", "bz");
    }

    private static void wayIs(Shelf x, String name, String way) {
        int answer = x.fed(name).witness(0);
        due.isText("the way down of " + name, x.readWitness(), way);
        due.is("the answer is its last number", answer, way.charAt(way.length() - 1) - '0');
    }

    private static void witnessEdges() {
        due.sentence(33, "TAPE: N: the WITNESS is, for each byte of it for which an EDGE goes on in the FORKED BOOK's TREE, "
            + "from the root on, three numbers: the BIT of that EDGE, its RANK, the byte");
        wayIs(shelf(), "a", "0 0 97 -1 1 0");
        wayIs(shelf(), "b", "1 1 98 -1 2 1");
        wayIs(shelf(), "bxy", "1 1 98 5 3 120 10 6 121 -1 7 1");
        Shelf x = shelf();
        wayIs(x, "bxy", "1 1 98 5 3 120 10 6 121 -1 7 1");
        wayIs(x, "bz", "1 1 98 6 4 122 -1 5 1");
        // the bytes behind one that does not go on are not looked at
        wayIs(x, "axbc", "0 0 97 -1 1 0");
        wayIs(x, "ba" + "bxy", "1 1 98 -1 2 0");
        x.bound(0, 2, "\u0001\u00ff", "\u00ff\u0001");
        wayIs(x, "\u0001\u00ff", "0 0 1 3 2 255 -1 3 1");
        wayIs(x, "\u00ff\u0001", "1 1 255 5 3 1 -1 4 1");
    }

    private static void witnessNode() {
        due.sentence(33, "then, for the node that is come to: -1, its number, 1 if all bytes went on and it is an END, else 0: "
            + "that last one is answered.");
        Shelf x = shelf();
        // no byte goes on: the root
        wayIs(x, "c", "-1 0 0");
        wayIs(x, "\u00ff".repeat(24), "-1 0 0");
        // all bytes go on to an end that goes on, to one that does not, and to a node that is none
        wayIs(x, "ab", "0 0 97 3 2 98 -1 3 1");
        wayIs(x, "abc", "0 0 97 3 2 98 8 5 99 -1 6 1");
        wayIs(x, "bx", "1 1 98 5 3 120 -1 4 0");
        // it is an end, but a byte is left
        wayIs(x, "abcd", "0 0 97 3 2 98 8 5 99 -1 6 0");
        wayIs(x, "abd", "0 0 97 3 2 98 -1 3 0");
        x.bound(0, 2, LONGEST);
        due.is("24 bytes", x.fed(LONGEST).witness(0), 1);
        due.is("its numbers", x.witnessed(), 75);
        due.is("the last edge's bit", x.told(69), 46);
        due.is("the node", x.told(73), 24);
        due.is("23 of them", x.fed(LONGEST.substring(0, 23)).witness(0), 0);
        due.is("its numbers", x.witnessed(), 72);
    }

    /** The tree of the most nodes: 100 edges from the root, each way 24 bytes long. */
    private static void witnessOfTheLargest() {
        due.sentence(33, "the BIT of that EDGE, its RANK, the byte");
        String[] names = Names.ofMostNodes();
        Shelf x = new Shelf().bound(0, 2, names);
        for (int k : new int[] {0, 63, 64, 99}) {
            due.is("witness", x.fed(names[k]).witness(0), 1);
            for (int level : new int[] {0, 1, 2, 23}) {
                int edge = 100 * level + k;
                // ahead of a bit are the 1s of the edges before and the 0s of the nodes before the edge's
                due.is("the bit", x.told(3 * level), level == 0 ? k : edge + edge - 99);
                due.is("its rank", x.told(3 * level + 1), edge);
            }
            due.is("the node", x.told(73), 2301 + k);
        }
    }

    private static void witnessOther() {
        due.sentence(33, "OTHER: another KIND, too.");
        Shelf x = shelf();
        x.drafted(6, "abcdefgh");
        x.fed("b").witness(0);
        for (int kind = 1; kind <= 5; kind++) {
            x.seal(6, 1, kind);
            due.is("kind " + kind, x.taped("abcdefgh").witness(1), kind == 2 ? 1 : BitAlmanac.OTHER);
            due.is("the tape", x.tape(0), kind == 2 ? BitAlmanac.NONE : 'a');
        }
        due.is("a draft", x.witness(6), BitAlmanac.OTHER);
        due.is("the witness stays", x.witnessed(), 27);
    }

    private static void witnessed() {
        due.sentence(34, "How many numbers the WITNESS has (0 at first).");
        Shelf x = shelf();
        due.is("at first", x.witnessed(), 0);
        due.is("a refused witness", x.witness(0), BitAlmanac.BAD);
        due.is("still", x.witnessed(), 0);
        x.fed("c").witness(0);
        due.is("no edge", x.witnessed(), 3);
        x.fed("a").witness(0);
        due.is("one edge", x.witnessed(), 6);
        x.fed("abc").witness(0);
        due.is("three edges", x.witnessed(), 12);
        x.fed("a").witness(0);
        due.is("one edge again", x.witnessed(), 6);
        x.fed("abc").check(0);
        due.is("check does not change it", x.witnessed(), 6);
        x.clear(0);
        due.is("nor does the book's end", x.witnessed(), 6);
        x.fed("a").witness(0);
        due.is("nor a refused witness", x.witnessed(), 6);
    }

    private static void told() {
        due.sentence(35, "Number i of it");
        Shelf x = shelf();
        x.fed("b").witness(0);
        int[] numbers = {1, 1, 98, -1, 2, 1};
        for (int i = 0; i < numbers.length; i++) {
            due.is("told(" + i + ")", x.told(i), numbers[i]);
        }
    }

    private static void toldNone() {
        due.sentence(35, "NONE - 1 (-2): there is none.");
        Shelf x = shelf();
        due.is("told(0) at first", x.told(0), -2);
        x.fed("b").witness(0);
        due.is("told(-1)", x.told(-1), -2);
        due.is("told(5)", x.told(5), 1);
        due.is("told(6)", x.told(6), -2);
        due.is("told(least)", x.told(LEAST), -2);
        due.is("told(most)", x.told(MOST), -2);
        x.fed("c").witness(0);
        due.is("told(3) of a shorter one", x.told(3), -2);
        x.bound(0, 2, LONGEST).fed(LONGEST).witness(0);
        due.is("told(74) of the longest", x.told(74), 1);
        due.is("told(75) of the longest", x.told(75), -2);
    }

    private static void forge() {
        due.sentence(36, "Number i of it becomes v: what it was.");
        Shelf x = shelf();
        x.fed("b").witness(0);
        due.is("forge(0)", x.forge(0, LEAST), 1);
        due.is("forge(0) again", x.forge(0, MOST), LEAST);
        due.is("forge(3)", x.forge(3, 0), -1);
        due.is("forge(5)", x.forge(5, -7), 1);
        due.isText("the witness", x.readWitness(), MOST + " 1 98 0 2 -7");
    }

    private static void forgeBad() {
        due.sentence(36, "BAD: there is none.");
        Shelf x = shelf();
        due.is("forge(0) at first", x.forge(0, 5), BitAlmanac.BAD);
        due.is("still none", x.witnessed(), 0);
        x.fed("b").witness(0);
        due.is("forge(-1)", x.forge(-1, 5), BitAlmanac.BAD);
        due.is("forge(6)", x.forge(6, 5), BitAlmanac.BAD);
        due.is("forge(least)", x.forge(LEAST, 5), BitAlmanac.BAD);
        due.is("forge(most)", x.forge(MOST, 5), BitAlmanac.BAD);
        due.isText("the witness stays", x.readWitness(), "1 1 98 -1 2 1");
        x.fed("c").witness(0);
        due.is("forge(3) of a shorter one", x.forge(3, 5), BitAlmanac.BAD);
    }

    private static void check() {
        due.sentence(37, "TAPE: N: whether the WITNESS is just what witness() would make of it with this BOOK: 1, 0.");
        Shelf x = shelf();
        due.is("no witness yet", x.fed("c").check(0), 0);
        x.fed("abc").witness(0);
        due.is("it", x.fed("abc").check(0), 1);
        due.is("one byte less", x.fed("ab").check(0), 0);
        due.is("one byte more: it is no end then", x.fed("abcd").check(0), 0);
        x.fed("abd").witness(0);
        due.is("a name that goes as far", x.fed("abe").check(0), 1);
        due.is("the name that ends there", x.fed("ab").check(0), 0);
        x.fed("c").witness(0);
        due.is("none goes on", x.fed("d").check(0), 1);
        x.bound(1, 2, "q");
        due.is("nor in another book", x.fed("c").check(1), 1);
        due.is("but there one does", x.fed("q").check(1), 0);
        x.fed("ab").witness(0);
        x.bound(1, 2, "ab", "abc", "b", "bxy");
        due.is("a book with the same way", x.fed("ab").check(1), 1);
        x.bound(1, 2, "ab", "abc", "b", "bxy", "c");
        due.is("a book with other bits", x.fed("ab").check(1), 0);
        x.bound(1, 2, "abc", "b");
        due.is("a book where it is no end", x.fed("ab").check(1), 0);
        due.is("the book itself", x.fed("ab").check(0), 1);
    }

    private static void checkEachNumber() {
        due.sentence(37, "just what witness() would make of it");
        Shelf x = shelf();
        x.fed("bx").witness(0);
        for (int i = 0; i < 9; i++) {
            int was = x.told(i);
            for (int off : new int[] {-1, 1}) {
                x.forge(i, was + off);
                due.is("number " + i + " off by " + off, x.fed("bx").check(0), 0);
            }
            x.forge(i, was);
            due.is("number " + i + " as it was", x.fed("bx").check(0), 1);
        }
    }

    private static void forgeFrom(Shelf x, int from, int... numbers) {
        for (int i = 0; i < numbers.length; i++) {
            x.forge(from + i, numbers[i]);
        }
    }

    /** Numbers that are right as far as they go, but too few or too many. */
    private static void checkHowMany() {
        due.sentence(37, "whether the WITNESS is just what witness() would make");
        Shelf x = shelf();
        x.fed("abc").witness(0);
        forgeFrom(x, 3, -1, 1, 0);
        due.isText("too many", x.readWitness(), "0 0 97 -1 1 0 8 5 99 -1 6 1");
        due.is("check with too many", x.fed("a").check(0), 0);
        x.fed("abc").witness(0);
        x.fed("a").witness(0);
        forgeFrom(x, 3, 3, 2, 98);
        due.isText("too few", x.readWitness(), "0 0 97 3 2 98");
        due.is("check with too few", x.fed("abc").check(0), 0);
        x = shelf();
        x.fed("bxy").witness(0);
        x.fed("a").witness(0);
        due.is("check of a shorter one behind a longer one", x.fed("a").check(0), 1);
        x.bound(0, 2, LONGEST).fed(LONGEST).witness(0);
        due.is("check of 24 bytes", x.fed(LONGEST).check(0), 1);
        x.forge(74, 0);
        due.is("check with another last number", x.fed(LONGEST).check(0), 0);
    }

    private static void checkOther() {
        due.sentence(37, "OTHER: as there.");
        Shelf x = shelf();
        x.drafted(6, "abcdefgh");
        for (int kind = 1; kind <= 5; kind++) {
            x.seal(6, 1, kind);
            due.is("kind " + kind, x.taped("abcdefgh").check(1), kind == 2 ? 0 : BitAlmanac.OTHER);
            due.is("the tape", x.tape(0), kind == 2 ? BitAlmanac.NONE : 'a');
        }
        due.is("a draft", x.check(6), BitAlmanac.OTHER);
        x.row(6, 5);
        due.is("a row", x.check(6), BitAlmanac.OTHER);
        due.is("nothing", x.check(9), BitAlmanac.NOTHING);
    }
}
