/** Promises 10 to 14: put, unput, seal, unseal, merge. */
public final class DraftsTest {
    private static final Due due = new Due("DraftsTest");
    private static final String LONGEST = Names.LONGEST;

    public static void main(String[] args) {
        put();
        putTillFull();
        unput();
        seal();
        sealRefused();
        unseal();
        mergeNames();
        mergeRefused();
        mergeFull();
        due.end();
    }

    private static void put() {
        Shelf x = new Shelf();
        due.is("put beyond", x.taped("a").put(10, 1), BitAlmanac.BEYOND);
        due.is("put beyond", x.put(-1, 1), BitAlmanac.BEYOND);
        due.is("put to nothing", x.put(0, 1), BitAlmanac.NOTHING);
        x.row(1, 5);
        due.is("put to a row", x.put(1, 1), BitAlmanac.OTHER);
        due.isText("the tape stays", x.readTape(), "a");
        x.draft(0);
        due.is("put a", x.put(0, 7), 1);
        due.is("the tape is empty", x.tape(0), BitAlmanac.NONE);
        due.is("put an empty tape", x.put(0, 7), BitAlmanac.BAD);
        due.is("put a again", x.taped("a").put(0, -8), 0);
        due.is("it is there once", x.count(0), 1);
        x.seal(0, 2, 1);
        due.is("put to a book", x.taped("b").put(2, 1), BitAlmanac.OTHER);
        due.is("its value is the later one", x.value(2, 0), -8);
        due.is("put 24 bytes", x.taped(LONGEST).put(0, 1), 1);
        due.is("put 25 bytes", x.taped(LONGEST + "y").put(0, 1), BitAlmanac.BAD);
        due.is("the tape is empty all the same", x.tape(0), BitAlmanac.NONE);
        due.is("put a byte 0 within", x.taped("a\0b").put(0, 1), BitAlmanac.BAD);
        due.is("put a byte 0 ahead", x.taped("\0b").put(0, 1), BitAlmanac.BAD);
        due.is("put a byte 0 behind", x.taped("b\0").put(0, 1), BitAlmanac.BAD);
        due.is("put bytes 255", x.taped("\u00ff\u00ff").put(0, 1), 1);
        due.is("names", x.count(0), 3);
    }

    private static void putTillFull() {
        Shelf x = new Shelf();
        x.draft(0);
        for (int i = 1; i <= 100; i++) {
            due.is("put name " + i, x.taped("n" + (char) i).put(0, i), 1);
        }
        due.is("put the 101st", x.taped("o").put(0, 0), BitAlmanac.FULL);
        due.is("the tape is empty", x.tape(0), BitAlmanac.NONE);
        due.is("a tape that is no name", x.taped("").put(0, 0), BitAlmanac.BAD);
        due.is("put one that is there", x.taped("n" + (char) 50).put(0, -1), 0);
        due.is("take one out", x.taped("n" + (char) 1).unput(0), 1);
        due.is("and put again", x.taped("o").put(0, 0), 1);
        due.is("seal 100", x.seal(0, 1, 2), 100);
    }

    private static void unput() {
        Shelf x = new Shelf();
        due.is("unput beyond", x.taped("a").unput(10), BitAlmanac.BEYOND);
        due.is("unput of nothing", x.unput(0), BitAlmanac.NOTHING);
        x.bound(1, 1, "a");
        due.is("unput of a book", x.taped("a").unput(1), BitAlmanac.OTHER);
        due.isText("the tape stays", x.readTape(), "a");
        x.drafted(0, "a", "ab", "b", "c");
        due.is("unput ab", x.taped("ab").unput(0), 1);
        due.is("the tape is empty", x.tape(0), BitAlmanac.NONE);
        due.is("unput ab again", x.taped("ab").unput(0), 0);
        due.is("the tape is empty", x.tape(0), BitAlmanac.NONE);
        due.is("unput an empty tape", x.unput(0), BitAlmanac.BAD);
        due.is("unput 25 bytes", x.taped(LONGEST + "y").unput(0), BitAlmanac.BAD);
        due.is("three are left", x.seal(0, 2, 1), 3);
        due.is("a", x.value(2, 0), 0);
        due.is("b", x.value(2, 1), 2);
        due.is("c", x.value(2, 2), 3);
    }

    private static void seal() {
        Shelf x = new Shelf();
        x.drafted(0, "b", "\u00e9", "abc", "a", "ab", "\u0001");
        for (int kind = 1; kind <= 4; kind++) {
            due.is("seal", x.seal(0, kind, kind), 6);
            due.is("kind", x.kind(kind), kind);
            String names = "";
            String values = "";
            for (int k = 0; k < 6; k++) {
                x.name(kind, k);
                names += x.readTape() + " ";
                values += x.value(kind, k) + " ";
            }
            due.isText("names in order", names, "\u0001 a ab abc b \u00e9 ");
            due.isText("values", values, "5 3 4 2 0 1 ");
        }
        x.taped("zz").put(0, 1);
        due.is("a book is sealed from later names", x.count(2), 6);
        x.taped("a").put(0, 99);
        due.is("and from later values", x.value(2, 1), 3);
        due.is("seal over the draft", x.seal(0, 0, 2), 7);
        due.is("the draft is gone there", x.kind(0), 2);
        x.drafted(5, "abcdefgh", "\u00ff\u00ff\u00ff\u00ff\u00ff\u00ff\u00ff\u00ff");
        due.is("seal SPLIT", x.seal(5, 6, 5), 2);
        due.is("of kind", x.kind(6), 5);
    }

    private static void sealRefused() {
        Shelf x = new Shelf();
        x.draft(0);
        x.row(1, 7);
        due.is("seal beyond p", x.seal(10, 0, 1), BitAlmanac.BEYOND);
        due.is("seal beyond q", x.seal(0, -1, 1), BitAlmanac.BEYOND);
        due.is("seal nothing to beyond", x.seal(5, 10, 1), BitAlmanac.BEYOND);
        due.is("seal nothing", x.seal(5, 1, 9), BitAlmanac.NOTHING);
        due.is("seal a row", x.seal(1, 2, 9), BitAlmanac.OTHER);
        due.is("seal no names", x.seal(0, 1, 1), BitAlmanac.BAD);
        due.is("q stays", x.kind(1), 7);
        x.drafted(0, "abcdefgh", "abcdefg");
        due.is("seal kind 0", x.seal(0, 1, 0), BitAlmanac.BAD);
        due.is("seal kind 6", x.seal(0, 1, 6), BitAlmanac.BAD);
        due.is("seal SPLIT with 7 bytes", x.seal(0, 1, 5), BitAlmanac.BAD);
        x.drafted(0, "abcdefgh", "abcdefghi");
        due.is("seal SPLIT with 9 bytes", x.seal(0, 1, 5), BitAlmanac.BAD);
        due.is("q stays", x.kind(1), 7);
        x.seal(0, 2, 2);
        due.is("seal a book", x.seal(2, 3, 2), BitAlmanac.OTHER);
    }

    private static void unseal() {
        Shelf x = new Shelf();
        x.bound(0, 2, "b", "a", "ab");
        due.is("unseal beyond p", x.unseal(10, 1), BitAlmanac.BEYOND);
        due.is("unseal beyond q", x.unseal(0, 10), BitAlmanac.BEYOND);
        due.is("unseal nothing", x.unseal(5, 1), BitAlmanac.NOTHING);
        due.is("unseal", x.unseal(0, 1), 3);
        due.is("it is a draft", x.kind(1), 6);
        due.is("unseal a draft", x.unseal(1, 2), BitAlmanac.OTHER);
        due.is("a name that is there", x.taped("ab").put(1, 9), 0);
        due.is("a new name", x.taped("c").put(1, 9), 1);
        due.is("the book stays", x.count(0), 3);
        due.is("and its values", x.value(0, 1), 2);
        x.seal(1, 2, 1);
        due.is("value of a", x.value(2, 0), 1);
        due.is("value of ab", x.value(2, 1), 9);
        due.is("value of b", x.value(2, 2), 0);
        x.lose(0, 0);
        due.is("unseal without a table", x.unseal(0, 3), BitAlmanac.MISSING);
        due.is("q stays", x.kind(3), 0);
        x.mend(0);
        due.is("unseal over itself", x.unseal(0, 0), 3);
        due.is("it is a draft", x.kind(0), 6);
        for (int i = 4; i <= 100; i++) {
            due.is("name " + i + " has room", x.taped("m" + (char) i).put(0, 1), 1);
        }
        due.is("name 101 has none", x.taped("n").put(0, 1), BitAlmanac.FULL);
    }

    private static void mergeNames() {
        Shelf x = new Shelf();
        x.bound(0, 2, "b", "a", "ab", "z");
        x.bound(1, 1, "y", "ab", "c", "b", "aa");
        due.is("merge either", x.merge(0, 1, 2, 0, 3), 7);
        due.isText("either", x.listed(2), "a=1 aa=4 ab=2 b=0 c=2 y=0 z=3");
        due.is("of kind", x.kind(2), 3);
        due.is("merge both", x.merge(0, 1, 2, 1, 4), 2);
        due.isText("both", x.listed(2), "ab=2 b=0");
        due.is("of kind", x.kind(2), 4);
        due.is("merge the first's only", x.merge(0, 1, 2, 2, 1), 2);
        due.isText("the first's only", x.listed(2), "a=1 z=3");
        due.is("the other way round", x.merge(1, 0, 2, 2, 2), 3);
        due.isText("the second's only", x.listed(2), "aa=4 c=2 y=0");
        due.is("with itself", x.merge(0, 0, 0, 1, 1), 4);
        due.is("over itself", x.kind(0), 1);
        x.bound(3, 1, "abcdefgh", "x");
        x.bound(4, 1, "x", "y");
        due.is("merge to SPLIT", x.merge(3, 4, 5, 2, 5), 1);
        due.is("of kind", x.kind(5), 5);
    }

    private static void mergeRefused() {
        Shelf x = new Shelf();
        x.bound(0, 2, "a");
        x.bound(1, 3, "b");
        x.draft(2);
        x.row(3, 1);
        due.is("merge beyond p", x.merge(-1, 1, 4, 0, 1), BitAlmanac.BEYOND);
        due.is("merge beyond q", x.merge(0, 10, 4, 0, 1), BitAlmanac.BEYOND);
        due.is("merge beyond r", x.merge(0, 1, 10, 0, 1), BitAlmanac.BEYOND);
        due.is("nothing and beyond r", x.merge(5, 1, -1, 0, 1), BitAlmanac.BEYOND);
        due.is("merge nothing p", x.merge(5, 1, 4, 9, 1), BitAlmanac.NOTHING);
        due.is("merge nothing q", x.merge(0, 5, 4, 9, 1), BitAlmanac.NOTHING);
        due.is("a draft and nothing", x.merge(2, 5, 4, 9, 1), BitAlmanac.NOTHING);
        due.is("merge a draft p", x.merge(2, 1, 4, 9, 1), BitAlmanac.OTHER);
        due.is("merge a row q", x.merge(0, 3, 4, 9, 1), BitAlmanac.OTHER);
        due.is("merge what -1", x.merge(0, 1, 3, -1, 1), BitAlmanac.BAD);
        due.is("merge what 3", x.merge(0, 1, 3, 3, 1), BitAlmanac.BAD);
        due.is("merge kind 0", x.merge(0, 1, 3, 0, 0), BitAlmanac.BAD);
        due.is("merge kind 6", x.merge(0, 1, 3, 0, 6), BitAlmanac.BAD);
        due.is("merge to none", x.merge(0, 1, 3, 1, 1), BitAlmanac.BAD);
        due.is("merge to SPLIT", x.merge(0, 1, 3, 0, 5), BitAlmanac.BAD);
        x.lose(1, 1);
        due.is("without q's table", x.merge(0, 1, 3, 0, 1), BitAlmanac.MISSING);
        due.is("without p's table", x.merge(1, 0, 3, 0, 1), BitAlmanac.MISSING);
        due.is("wrong what comes ahead", x.merge(0, 1, 3, 3, 1), BitAlmanac.BAD);
        due.is("wrong kind comes ahead", x.merge(0, 1, 3, 0, 6), BitAlmanac.BAD);
        due.is("no names come behind", x.merge(0, 1, 3, 1, 1), BitAlmanac.MISSING);
        due.is("SPLIT comes behind", x.merge(0, 1, 3, 0, 5), BitAlmanac.MISSING);
        due.is("r stays", x.kind(3), 7);
    }

    private static void mergeFull() {
        Shelf x = new Shelf();
        x.draft(0);
        for (int i = 1; i <= 60; i++) {
            x.fed("n" + (char) i).put(0, i);
        }
        x.seal(0, 1, 1);
        x.draft(0);
        for (int i = 21; i <= 100; i++) {
            x.fed("n" + (char) i).put(0, -i);
        }
        x.seal(0, 2, 2);
        due.is("just 100", x.merge(1, 2, 3, 0, 2), 100);
        due.is("the first's value", x.value(3, 59), 60);
        due.is("the second's value", x.value(3, 60), -61);
        x.taped("o").put(0, 1);
        x.seal(0, 2, 2);
        due.is("101", x.merge(1, 2, 3, 0, 2), BitAlmanac.FULL);
        due.is("101, SPLIT", x.merge(1, 2, 3, 0, 5), BitAlmanac.FULL);
        due.is("r stays", x.count(3), 100);
        due.is("the names of both", x.merge(1, 2, 3, 1, 2), 40);
        due.is("of the second only", x.merge(2, 1, 3, 2, 2), 41);
        x.lose(2, 0);
        due.is("a table comes ahead", x.merge(1, 2, 3, 0, 2), BitAlmanac.MISSING);
    }
}
