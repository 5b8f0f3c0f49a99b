/** Promises 33 to 37: witness, witnessed, told, forge, check. */
public final class WaysTest {
    private static final Due due = new Due("WaysTest");

    public static void main(String[] args) {
        witness();
        witnessRefused();
        longestWay();
        toldAndForge();
        check();
        checkRefused();
        due.end();
    }

    private static Shelf shelf() {
        Shelf x = new Shelf();
        x.bound(0, 2, "ab", "abc", "b", "bxy", "bz");
        return x;
    }

    private static void wayIs(Shelf x, String name, int answer, String way) {
        due.is("witness of " + name, x.taped(name).witness(0), answer);
        due.is("the tape is empty", x.tape(0), BitAlmanac.NONE);
        due.isText("the way down of " + name, x.readWitness(), way);
    }

    /** The row is 110 10 110 10 10 0 0 0: root, a, b, ab, bx, bz, abc, bxy. */
    private static void witness() {
        Shelf x = shelf();
        wayIs(x, "ab", 1, "0 0 97 3 2 98 -1 3 1");
        wayIs(x, "abc", 1, "0 0 97 3 2 98 8 5 99 -1 6 1");
        wayIs(x, "bxy", 1, "1 1 98 5 3 120 10 6 121 -1 7 1");
        wayIs(x, "bz", 1, "1 1 98 6 4 122 -1 5 1");
        wayIs(x, "a", 0, "0 0 97 -1 1 0");
        wayIs(x, "b", 1, "1 1 98 -1 2 1");
        wayIs(x, "by", 0, "1 1 98 -1 2 0");
        wayIs(x, "bzz", 0, "1 1 98 6 4 122 -1 5 0");
        wayIs(x, "c", 0, "-1 0 0");
        wayIs(x, "xyz", 0, "-1 0 0");
        due.is("witnessed", x.witnessed(), 3);
    }

    private static void witnessRefused() {
        Shelf x = shelf();
        x.taped("ab").witness(0);
        String way = x.readWitness();
        x.draft(1);
        x.row(2, 3);
        x.taped("b");
        due.is("witness beyond", x.witness(-1), BitAlmanac.BEYOND);
        due.is("witness beyond", x.witness(10), BitAlmanac.BEYOND);
        due.is("witness of nothing", x.witness(8), BitAlmanac.NOTHING);
        due.is("witness of a draft", x.witness(1), BitAlmanac.OTHER);
        due.is("witness of a row", x.witness(2), BitAlmanac.OTHER);
        due.isText("the tape stays", x.readTape(), "b");
        for (int kind = 1; kind <= 5; kind++) {
            if (kind != 2) {
                x.bound(3, kind, "abcdefgh");
                due.is("witness of another kind", x.taped("b").witness(3), BitAlmanac.OTHER);
                due.isText("the tape stays", x.readTape(), "b");
            }
        }
        x.cut(0);
        due.is("witness of no bytes", x.witness(0), BitAlmanac.BAD);
        due.is("witness of a byte 0", x.taped("b\0").witness(0), BitAlmanac.BAD);
        x.lose(0, 0);
        due.is("no bytes, table lost", x.witness(0), BitAlmanac.BAD);
        due.is("table lost", x.taped("b").witness(0), BitAlmanac.MISSING);
        due.is("the tape is empty", x.tape(0), BitAlmanac.NONE);
        due.isText("the witness stays", x.readWitness(), way);
    }

    private static void longestWay() {
        Shelf x = new Shelf();
        String name = "abcdefghijklmnopqrstuvwx";
        x.bound(0, 2, name);
        due.is("witness", x.taped(name).witness(0), 1);
        due.is("witnessed", x.witnessed(), 75);
        due.is("the last edge's bit", x.told(69), 46);
        due.is("its rank", x.told(70), 23);
        due.is("its byte", x.told(71), 'x');
        due.is("the node", x.told(73), 24);
        due.is("its end", x.told(74), 1);
        due.is("no more", x.told(75), -2);
    }

    private static void toldAndForge() {
        Shelf x = shelf();
        due.is("told(0) at first", x.told(0), -2);
        due.is("forge(0) at first", x.forge(0, 4), BitAlmanac.BAD);
        x.taped("b").witness(0);
        due.is("witnessed", x.witnessed(), 6);
        due.is("told(-1)", x.told(-1), -2);
        due.is("told(6)", x.told(6), -2);
        due.is("told(most)", x.told(Integer.MAX_VALUE), -2);
        due.is("forge(-1)", x.forge(-1, 4), BitAlmanac.BAD);
        due.is("forge(6)", x.forge(6, 4), BitAlmanac.BAD);
        due.is("forge(2)", x.forge(2, Integer.MIN_VALUE), 98);
        due.is("told(2)", x.told(2), Integer.MIN_VALUE);
        due.is("forge(3)", x.forge(3, 7), -1);
        due.is("forge(5)", x.forge(5, 0), 1);
        due.isText("the witness", x.readWitness(), "1 1 " + Integer.MIN_VALUE + " 7 2 0");
    }

    private static void check() {
        Shelf x = shelf();
        due.is("check at first", x.taped("c").check(0), 0);
        due.is("witnessed stays 0", x.witnessed(), 0);
        x.taped("abq").witness(0);
        String way = x.readWitness();
        due.is("check", x.taped("abq").check(0), 1);
        due.is("the tape is empty", x.tape(0), BitAlmanac.NONE);
        due.is("check with another name", x.taped("ab").check(0), 0);
        due.is("check with a shorter way", x.taped("a").check(0), 0);
        due.is("check with a name of the same way", x.taped("abr").check(0), 1);
        due.isText("check leaves the witness", x.readWitness(), way);
        for (int i = 0; i < x.witnessed(); i++) {
            int was = x.forge(i, 1000 + i);
            due.is("check with a forged number", x.taped("abq").check(0), 0);
            x.forge(i, was);
        }
        due.is("check when mended", x.taped("abq").check(0), 1);
        x.bound(1, 2, "ab", "b");
        due.is("check with another book", x.taped("abq").check(1), 1);
        x.bound(1, 2, "ab", "b", "c");
        due.is("check with a book of other bits", x.taped("abq").check(1), 0);
    }

    private static void checkRefused() {
        Shelf x = shelf();
        x.bound(1, 3, "ab");
        x.draft(2);
        x.taped("ab").witness(0);
        x.taped("ab");
        due.is("check beyond", x.check(10), BitAlmanac.BEYOND);
        due.is("check of nothing", x.check(8), BitAlmanac.NOTHING);
        due.is("check of another kind", x.check(1), BitAlmanac.OTHER);
        due.is("check of a draft", x.check(2), BitAlmanac.OTHER);
        due.isText("the tape stays", x.readTape(), "ab");
        x.cut(0);
        due.is("check of no bytes", x.check(0), BitAlmanac.BAD);
        x.lose(0, 1);
        due.is("table lost", x.taped("ab").check(0), BitAlmanac.MISSING);
        due.is("the tape is empty", x.tape(0), BitAlmanac.NONE);
        x.mend(0);
        due.is("check when mended", x.taped("ab").check(0), 1);
    }
}
