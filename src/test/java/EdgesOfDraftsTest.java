/** Promises 10 to 14, sentence by sentence, each at its edge. */
public final class EdgesOfDraftsTest {
    private static final Due due = new Due("EdgesOfDraftsTest");
    private static final String LONGEST = Names.LONGEST;

    public static void main(String[] args) {
        putNew();
        putAgain();
        putFull();
        unputThere();
        unputNotThere();
        seal();
        sealKinds();
        sealNoNames();
        sealSplit();
        sealBeyond();
        unseal();
        unsealBeyond();
        mergeEither();
        mergeBoth();
        mergeFirstOnly();
        mergeValues();
        mergeBad();
        mergeMissing();
        mergeFull();
        mergeHundreds();
        mergeNone();
        mergeBeyond();
        due.end();
    }

    private static void putNew() {
        due.sentence(10, "TAPE: N, with VALUE v, comes into the DRAFT: 1");
        Shelf x = new Shelf();
        x.draft(0);
        due.is("put 1 byte", x.fed("m").put(0, Long.MIN_VALUE), 1);
        due.is("put 24 bytes", x.fed(LONGEST).put(0, Long.MAX_VALUE), 1);
        due.is("put what it begins with", x.fed(LONGEST.substring(0, 23)).put(0, 0), 1);
        due.is("put 25 bytes", x.fed(LONGEST + "y").put(0, 5), BitAlmanac.BAD);
        due.is("put no bytes", x.put(0, 5), BitAlmanac.BAD);
        due.is("names", x.count(0), 3);
        x.seal(0, 1, 1);
        due.isText("the names", x.listed(1), LONGEST.substring(0, 23) + "=0 " + LONGEST + "=" + Long.MAX_VALUE
            + " m=" + Long.MIN_VALUE);
    }

    private static void putAgain() {
        due.sentence(10, "0: it was there, its VALUE is v now.");
        Shelf x = new Shelf().drafted(0, "a", "b", "c");
        due.is("put the first", x.fed("a").put(0, 100), 0);
        due.is("put the last", x.fed("c").put(0, -100), 0);
        due.is("put with the same value", x.fed("b").put(0, 1), 0);
        due.is("names", x.count(0), 3);
        x.seal(0, 1, 1);
        due.isText("their values", x.listed(1), "a=100 b=1 c=-100");
        due.is("put what was taken out", x.taped("a").unput(0) + x.fed("a").put(0, 1), 2);
    }

    private static void putFull() {
        due.sentence(10, "FULL.");
        Shelf x = full(new Shelf(), 0, 100);
        due.is("put one more", x.fed("\u0001").put(0, 1), BitAlmanac.FULL);
        due.is("put one more behind all", x.fed("z").put(0, 1), BitAlmanac.FULL);
        due.is("names", x.count(0), 100);
        due.is("put one that is there", x.fed("n" + (char) 100).put(0, 7), 0);
        x.seal(0, 1, 1);
        due.is("its value", x.value(1, 99), 7);
        due.isText("the first name stays", x.readName(1, 0), "n\u0001");
    }

    /** A draft of so many names. */
    private static Shelf full(Shelf x, int p, int names) {
        x.draft(p);
        for (int i = 1; i <= names; i++) {
            x.fed("n" + (char) i).put(p, i);
        }
        return x;
    }

    private static void unputThere() {
        due.sentence(11, "TAPE: N goes from the DRAFT: 1");
        Shelf x = new Shelf().drafted(0, "a", "ab", "b", LONGEST);
        due.is("the first", x.fed("a").unput(0), 1);
        due.is("the last", x.fed("b").unput(0), 1);
        due.is("names", x.count(0), 2);
        x.seal(0, 1, 1);
        due.isText("those that stay", x.listed(1), "ab=1 " + LONGEST + "=3");
        due.is("24 bytes", x.taped(LONGEST).unput(0), 1);
        due.is("the one that is left", x.fed("ab").unput(0), 1);
        due.is("names", x.count(0), 0);
        due.is("seal what is left", x.seal(0, 2, 1), BitAlmanac.BAD);
        x = full(new Shelf(), 0, 100);
        due.is("from a full draft", x.fed("n" + (char) 100).unput(0), 1);
        due.is("names", x.count(0), 99);
    }

    private static void unputNotThere() {
        due.sentence(11, "0: it was not there.");
        Shelf x = new Shelf();
        x.draft(0);
        due.is("of no names", x.fed("a").unput(0), 0);
        x.fed("ab").put(0, 1);
        due.is("what it begins with", x.fed("a").unput(0), 0);
        due.is("what begins with it", x.fed("abc").unput(0), 0);
        due.is("no name", x.unput(0), BitAlmanac.BAD);
        due.is("it", x.fed("ab").unput(0), 1);
        due.is("it again", x.fed("ab").unput(0), 0);
    }

    private static void seal() {
        due.sentence(12, "PLACE q holds the BOOK of a KIND of p's DRAFT: how many NAMES it has.");
        for (int kind = 1; kind <= 4; kind++) {
            Shelf x = full(new Shelf(), 0, 100);
            due.is("100 names", x.seal(0, 9, kind), 100);
            due.is("kind", x.kind(9), kind);
            due.is("the draft stays", x.kind(0), 6);
            x.fed("n" + (char) 100).unput(0);
            due.is("99 names", x.seal(0, 8, kind), 99);
            due.is("the book is sealed from what the draft loses", x.count(9), 100);
            due.is("in the draft's own place", x.seal(0, 0, kind), 99);
            due.is("kind", x.kind(0), kind);
        }
    }

    private static void sealKinds() {
        due.sentence(12, "BAD: kind is not 1 .. 5");
        Shelf x = new Shelf().drafted(0, "abcdefgh");
        x.row(1, 9);
        due.is("kind 0", x.seal(0, 1, 0), BitAlmanac.BAD);
        due.is("kind 6", x.seal(0, 1, 6), BitAlmanac.BAD);
        due.is("kind -1", x.seal(0, 1, -1), BitAlmanac.BAD);
        due.is("kind least", x.seal(0, 1, Integer.MIN_VALUE), BitAlmanac.BAD);
        due.is("kind most", x.seal(0, 1, Integer.MAX_VALUE), BitAlmanac.BAD);
        due.is("q stays", x.kind(1), 7);
        due.is("kind 1", x.seal(0, 1, 1), 1);
        due.is("kind 5", x.seal(0, 1, 5), 1);
    }

    private static void sealNoNames() {
        due.sentence(12, "the DRAFT has no NAMES");
        Shelf x = new Shelf();
        x.draft(0);
        for (int kind = 1; kind <= 5; kind++) {
            due.is("seal kind " + kind, x.seal(0, 0, kind), BitAlmanac.BAD);
            due.is("the draft stays", x.kind(0), 6);
        }
        x.fed("a").put(0, 1);
        due.is("with one name", x.seal(0, 0, 4), 1);
    }

    private static void sealSplit() {
        due.sentence(12, "SPLIT, and not all have 8 bytes.");
        Shelf x = new Shelf().drafted(0, "aaaaaaaa", "bbbbbbbb");
        due.is("all have 8", x.seal(0, 1, 5), 2);
        x.fed("aaaaaaaaa").put(0, 1);
        due.is("one has 9", x.seal(0, 1, 5), BitAlmanac.BAD);
        x.fed("aaaaaaaaa").unput(0);
        x.fed("bbbbbbb").put(0, 1);
        due.is("one has 7", x.seal(0, 1, 5), BitAlmanac.BAD);
        due.is("q stays", x.count(1), 2);
        due.is("another kind", x.seal(0, 1, 4), 3);
    }

    private static void sealBeyond() {
        due.sentence(12, "(BEYOND: also q.)");
        Shelf x = new Shelf().drafted(0, "a");
        due.is("p -1", x.seal(-1, 1, 1), BitAlmanac.BEYOND);
        due.is("p 10", x.seal(10, 1, 1), BitAlmanac.BEYOND);
        due.is("q -1", x.seal(0, -1, 1), BitAlmanac.BEYOND);
        due.is("q 10", x.seal(0, 10, 1), BitAlmanac.BEYOND);
        due.is("q 9", x.seal(0, 9, 1), 1);
        due.is("q 0", x.seal(0, 0, 1), 1);
    }

    private static void unseal() {
        due.sentence(13, "PLACE q holds a DRAFT of the NAMES and VALUES of p's BOOK: how many.");
        for (int kind = 1; kind <= 5; kind++) {
            Shelf x = new Shelf().bound(0, kind, "cccccccc", "aaaaaaaa");
            due.is("unseal", x.unseal(0, 9), 2);
            due.is("a draft", x.kind(9), 6);
            due.is("its names", x.count(9), 2);
            x.fed("aaaaaaaa").put(9, -3);
            x.fed("cccccccc").unput(9);
            due.isText("the book stays", x.listed(0), "aaaaaaaa=1 cccccccc=0");
            x.seal(9, 8, 1);
            due.isText("the draft changes", x.listed(8), "aaaaaaaa=-3");
            due.is("in its own place", x.unseal(0, 0), 2);
            due.is("a draft", x.kind(0), 6);
        }
        Shelf x = full(new Shelf(), 0, 100);
        x.seal(0, 1, 2);
        due.is("100 names", x.unseal(1, 2), 100);
        due.is("no room for one more", x.fed("o").put(2, 1), BitAlmanac.FULL);
        x.bound(1, 1, "a");
        due.is("one name", x.unseal(1, 2), 1);
        for (int i = 2; i <= 100; i++) {
            x.fed("n" + (char) i).put(2, 1);
        }
        due.is("room for 99 more", x.count(2), 100);
    }

    private static void unsealBeyond() {
        due.sentence(13, "(BEYOND: also q.)");
        Shelf x = new Shelf().bound(0, 1, "a");
        due.is("p -1", x.unseal(-1, 1), BitAlmanac.BEYOND);
        due.is("p 10", x.unseal(10, 1), BitAlmanac.BEYOND);
        due.is("q -1", x.unseal(0, -1), BitAlmanac.BEYOND);
        due.is("q 10", x.unseal(0, 10), BitAlmanac.BEYOND);
        due.is("q 9", x.unseal(0, 9), 1);
    }

    private static Shelf twoBooks() {
        return new Shelf().bound(0, 2, "a", "ab", "c").bound(1, 3, "d", "c", "b", "ab");
    }

    private static void mergeEither() {
        due.sentence(14, "PLACE r holds a BOOK of a KIND: what 0: the NAMES of p's BOOK or q's");
        Shelf x = twoBooks();
        due.is("merge", x.merge(0, 1, 9, 0, 4), 5);
        due.is("kind", x.kind(9), 4);
        due.isText("the names", x.listed(9), "a=0 ab=1 b=2 c=2 d=0");
        due.is("with itself, over itself", x.merge(0, 0, 0, 0, 1), 3);
        due.is("kind", x.kind(0), 1);
        x.bound(2, 1, "z").bound(3, 1, "a");
        due.is("the first behind the second", x.merge(2, 3, 4, 0, 1), 2);
        due.isText("the names", x.listed(4), "a=0 z=0");
    }

    private static void mergeBoth() {
        due.sentence(14, "1: of both");
        Shelf x = twoBooks();
        due.is("merge", x.merge(0, 1, 9, 1, 2), 2);
        due.isText("the names", x.listed(9), "ab=1 c=2");
        due.is("the other way round", x.merge(1, 0, 9, 1, 1), 2);
        due.isText("the names", x.listed(9), "ab=3 c=1");
        due.is("with itself", x.merge(0, 0, 9, 1, 3), 3);
    }

    private static void mergeFirstOnly() {
        due.sentence(14, "2: of p's, not q's");
        Shelf x = twoBooks();
        due.is("merge", x.merge(0, 1, 9, 2, 2), 1);
        due.isText("the names", x.listed(9), "a=0");
        due.is("the other way round", x.merge(1, 0, 9, 2, 1), 2);
        due.isText("the names", x.listed(9), "b=2 d=0");
        x.bound(2, 1, "abc");
        due.is("what begins alike is not the same", x.merge(0, 2, 9, 2, 1), 3);
    }

    private static void mergeValues() {
        due.sentence(14, "with p's VALUE if it has the NAME: how many.");
        Shelf x = new Shelf();
        x.draft(0);
        x.draft(1);
        x.fed("a").put(0, Long.MIN_VALUE);
        x.fed("a").put(1, 5);
        x.fed("b").put(1, Long.MAX_VALUE);
        x.seal(0, 2, 1);
        x.seal(1, 3, 2);
        due.is("either", x.merge(2, 3, 4, 0, 3), 2);
        due.isText("p's value", x.listed(4), "a=" + Long.MIN_VALUE + " b=" + Long.MAX_VALUE);
        due.is("width", x.about(4, 6), 8);
        due.is("both", x.merge(3, 2, 4, 1, 3), 1);
        due.isText("p's value", x.listed(4), "a=5");
        due.is("width", x.about(4, 6), 1);
    }

    private static void mergeBad() {
        due.sentence(14, "BAD: what, kind");
        Shelf x = twoBooks();
        x.row(2, 4);
        for (int what : new int[] {-1, 3, Integer.MIN_VALUE, Integer.MAX_VALUE}) {
            due.is("what " + what, x.merge(0, 1, 2, what, 1), BitAlmanac.BAD);
        }
        for (int kind : new int[] {0, 6, -1, Integer.MIN_VALUE, Integer.MAX_VALUE}) {
            due.is("kind " + kind, x.merge(0, 1, 2, 0, kind), BitAlmanac.BAD);
        }
        due.is("r stays", x.kind(2), 7);
        due.is("what 0", x.merge(0, 1, 2, 0, 1), 5);
        due.is("what 2", x.merge(0, 1, 2, 2, 1), 1);
        due.is("kind 1", x.merge(0, 1, 2, 1, 1), 2);
        due.is("kind 4", x.merge(0, 1, 2, 1, 4), 2);
        x.bound(3, 1, "abcdefgh");
        due.is("kind 5", x.merge(3, 3, 2, 1, 5), 1);
    }

    private static void mergeMissing() {
        due.sentence(14, "then MISSING");
        for (int which = 0; which <= 1; which++) {
            for (int p = 0; p <= 1; p++) {
                Shelf x = twoBooks();
                x.lose(p, which);
                due.is("place " + p + " lacks " + which, x.merge(0, 1, 9, 0, 1), BitAlmanac.MISSING);
                due.is("r stays", x.kind(9), 0);
                due.is("a wrong what comes ahead", x.merge(0, 1, 9, 3, 1), BitAlmanac.BAD);
                due.is("a wrong kind comes ahead", x.merge(0, 1, 9, 0, 0), BitAlmanac.BAD);
                due.is("no names come behind", x.merge(p, p, 9, 2, 1), BitAlmanac.MISSING);
                due.is("SPLIT comes behind", x.merge(0, 1, 9, 0, 5), BitAlmanac.MISSING);
                due.is("the other one with itself", x.merge(1 - p, 1 - p, 9, 0, 1), p == 0 ? 4 : 3);
                x.mend(p);
                due.is("when mended", x.merge(0, 1, 9, 0, 1), 5);
            }
        }
    }

    private static void mergeFull() {
        due.sentence(14, "FULL: above 100");
        Shelf x = full(new Shelf(), 0, 99);
        x.seal(0, 1, 1);
        x.bound(2, 2, "o").bound(3, 3, "o", "p");
        due.is("99 and 1", x.merge(1, 2, 4, 0, 2), 100);
        due.is("99 and 2", x.merge(1, 3, 4, 0, 2), BitAlmanac.FULL);
        due.is("2 and 99", x.merge(3, 1, 4, 0, 2), BitAlmanac.FULL);
        due.is("FULL comes ahead of SPLIT", x.merge(3, 1, 4, 0, 5), BitAlmanac.FULL);
        due.is("r stays", x.count(4), 100);
        due.is("100 and one of them", x.merge(4, 2, 5, 0, 3), 100);
        due.is("100 with themselves", x.merge(4, 4, 5, 0, 4), 100);
        due.is("100 less none", x.merge(4, 4, 5, 1, 1), 100);
        due.is("both of 99 and 2", x.merge(1, 3, 5, 1, 1), BitAlmanac.BAD);
        due.is("99 less 2", x.merge(1, 3, 5, 2, 1), 99);
        x.lose(3, 0);
        due.is("MISSING comes ahead", x.merge(1, 3, 4, 0, 2), BitAlmanac.MISSING);
    }

    /** Two books of 100 names, none of them in both. */
    private static void mergeHundreds() {
        due.sentence(14, "FULL: above 100");
        Shelf x = full(new Shelf(), 0, 100);
        x.seal(0, 1, 1);
        x.draft(0);
        for (int i = 1; i <= 100; i++) {
            x.fed("m" + (char) i).put(0, -i);
        }
        x.seal(0, 2, 2);
        due.is("200 names", x.merge(1, 2, 3, 0, 1), BitAlmanac.FULL);
        due.is("of both, none", x.merge(1, 2, 3, 1, 1), BitAlmanac.BAD);
        due.is("of the later ones only", x.merge(1, 2, 3, 2, 1), 100);
        due.is("the last of them", x.value(3, 99), 100);
        due.is("of the earlier ones only", x.merge(2, 1, 4, 2, 1), 100);
        due.is("the last of them", x.value(4, 99), -100);
    }

    private static void mergeNone() {
        due.sentence(14, "then BAD: none would be there, SPLIT as of seal().");
        Shelf x = new Shelf().bound(0, 1, "a", "aaaaaaaa").bound(1, 1, "b", "aaaaaaaa").bound(2, 1, "b");
        x.row(9, 5);
        due.is("of both, none", x.merge(0, 2, 9, 1, 1), BitAlmanac.BAD);
        due.is("of the first only, none", x.merge(0, 0, 9, 2, 1), BitAlmanac.BAD);
        due.is("of the first only, none", x.merge(2, 1, 9, 2, 1), BitAlmanac.BAD);
        due.is("SPLIT, and one has 1 byte", x.merge(0, 1, 9, 0, 5), BitAlmanac.BAD);
        due.is("SPLIT, and none", x.merge(0, 2, 9, 1, 5), BitAlmanac.BAD);
        due.is("r stays", x.kind(9), 7);
        due.is("SPLIT, and all have 8", x.merge(0, 1, 9, 1, 5), 1);
        due.is("SPLIT, and all that are left have 8", x.merge(1, 2, 9, 2, 5), 1);
        due.is("kind", x.kind(9), 5);
    }

    private static void mergeBeyond() {
        due.sentence(14, "(BEYOND: also q, r.)");
        Shelf x = twoBooks();
        for (int p : new int[] {-1, 10}) {
            due.is("p " + p, x.merge(p, 1, 2, 0, 1), BitAlmanac.BEYOND);
            due.is("q " + p, x.merge(0, p, 2, 0, 1), BitAlmanac.BEYOND);
            due.is("r " + p, x.merge(0, 1, p, 0, 1), BitAlmanac.BEYOND);
            due.is("r " + p + ", p nothing", x.merge(5, 1, p, 0, 1), BitAlmanac.BEYOND);
        }
        due.is("r 9", x.merge(0, 1, 9, 0, 1), 5);
        due.is("p and q 9", x.merge(9, 9, 9, 0, 1), 5);
    }
}
