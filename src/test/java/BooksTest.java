/** Promises 15 to 25: count, number, name, value, status, below, next, prior, prefix, longest, common. */
public final class BooksTest {
    private static final Due due = new Due("BooksTest");
    private static final String[] NAMES = {"a", "ab", "abcde", "abd", "b\u0080", "b\u00ff", "cab"};
    private static final String[] EIGHTS = {"aaaaaaaa", "aaaaaaab", "aaaabbbb", "zzzzzzzz"};

    public static void main(String[] args) {
        count();
        for (int kind = 1; kind <= 4; kind++) {
            order(kind);
            prefix(kind);
            longest(kind);
            numbered(kind);
        }
        split();
        valueAndStatus();
        asksRefused();
        numbersRefused();
        withoutTables();
        due.end();
    }

    private static Shelf shelf(int kind) {
        Shelf x = new Shelf();
        x.bound(0, kind, NAMES);
        return x;
    }

    private static void count() {
        Shelf x = new Shelf();
        due.is("count beyond", x.count(-1), BitAlmanac.BEYOND);
        due.is("count beyond", x.count(10), BitAlmanac.BEYOND);
        due.is("count nothing", x.count(0), BitAlmanac.NOTHING);
        x.drafted(0, "a", "b");
        x.row(1, 77);
        x.seal(0, 2, 3);
        x.lose(2, 0);
        due.is("count a draft", x.count(0), 2);
        due.is("count a row", x.count(1), 77);
        due.is("count a book, tables or not", x.count(2), 2);
    }

    private static void order(int kind) {
        Shelf x = shelf(kind);
        for (int k = 0; k < NAMES.length; k++) {
            due.is("number", x.taped(NAMES[k]).number(0), k);
            due.is("the tape is empty", x.tape(0), BitAlmanac.NONE);
            due.is("below", x.taped(NAMES[k]).below(0), k);
            due.is("next", x.taped(NAMES[k]).next(0), k == 6 ? BitAlmanac.NONE : k + 1);
            due.is("prior", x.taped(NAMES[k]).prior(0), k - 1);
        }
        String[] others = {"\u0001", "aa", "abc", "abcdef", "b", "b\u0081", "c", "d", "\u00ff"};
        int[] ahead = {0, 1, 2, 3, 4, 5, 6, 7, 7};
        for (int i = 0; i < others.length; i++) {
            due.is("number of another", x.taped(others[i]).number(0), BitAlmanac.NONE);
            due.is("below another", x.taped(others[i]).below(0), ahead[i]);
            due.is("next of another", x.taped(others[i]).next(0), ahead[i] == 7 ? -1 : ahead[i]);
            due.is("prior of another", x.taped(others[i]).prior(0), ahead[i] - 1);
        }
    }

    private static void prefix(int kind) {
        Shelf x = shelf(kind);
        String[] begins = {"a", "ab", "abc", "abcde", "b", "b\u00ff", "c", "cab"};
        int[] first = {0, 1, 2, 2, 4, 5, 6, 6};
        int[] last = {3, 3, 2, 2, 5, 5, 6, 6};
        for (int i = 0; i < begins.length; i++) {
            due.is("first with " + begins[i], x.taped(begins[i]).prefix(0, false), first[i]);
            due.is("last with " + begins[i], x.taped(begins[i]).prefix(0, true), last[i]);
        }
        due.is("none, 0 ahead", x.taped("A").prefix(0, false), -10);
        due.is("none, 1 ahead", x.taped("aa").prefix(0, true), -11);
        due.is("none, 3 ahead", x.taped("abcdef").prefix(0, false), -13);
        due.is("none, all ahead", x.taped("cabs").prefix(0, true), -17);
        due.is("the tape is empty", x.tape(0), BitAlmanac.NONE);
    }

    private static void longest(int kind) {
        Shelf x = shelf(kind);
        due.is("longest in a", x.taped("a").longest(0), 0);
        due.is("longest in ac", x.taped("ac").longest(0), 0);
        due.is("longest in abc", x.taped("abc").longest(0), 1);
        due.is("longest in abcdef", x.taped("abcdef").longest(0), 2);
        due.is("longest in abdz", x.taped("abdz").longest(0), 3);
        due.is("longest in b", x.taped("b").longest(0), BitAlmanac.NONE);
        due.is("longest in ca", x.taped("ca").longest(0), BitAlmanac.NONE);
        due.is("longest in zz", x.taped("zz").longest(0), BitAlmanac.NONE);
        due.is("the tape is empty", x.tape(0), BitAlmanac.NONE);
    }

    private static void numbered(int kind) {
        Shelf x = shelf(kind);
        x.taped("something long on the tape");
        for (int k = 0; k < NAMES.length; k++) {
            due.is("name", x.name(0, k), NAMES[k].length());
            due.isText("the tape", x.readTape(), NAMES[k]);
        }
        due.is("common of itself", x.common(0, 2, 2), 5);
        due.is("common of a and ab", x.common(0, 0, 1), 1);
        due.is("common of abd and abcde", x.common(0, 3, 2), 2);
        due.is("common of a and cab", x.common(0, 0, 6), 0);
        due.is("common of b80 and bff", x.common(0, 4, 5), 1);
        due.isText("common leaves the tape", x.readTape(), "cab");
    }

    private static void split() {
        Shelf x = new Shelf();
        x.bound(0, 5, EIGHTS);
        due.is("number", x.taped("aaaabbbb").number(0), 2);
        due.is("number of a beginning", x.taped("aaaa").number(0), BitAlmanac.NONE);
        due.is("below", x.taped("aaaaaaaaa").below(0), 1);
        due.is("next", x.taped("b").next(0), 3);
        due.is("prior", x.taped("b").prior(0), 2);
        due.is("first", x.taped("aaaaaaa").prefix(0, false), 0);
        due.is("last", x.taped("aaaaaaa").prefix(0, true), 1);
        due.is("none", x.taped("c").prefix(0, true), -13);
        due.is("longest", x.taped("zzzzzzzzz").longest(0), 3);
        due.is("name", x.name(0, 1), 8);
        due.isText("the tape", x.readTape(), "aaaaaaab");
        due.is("common", x.common(0, 1, 2), 4);
    }

    private static void valueAndStatus() {
        Shelf x = new Shelf();
        x.draft(0);
        x.taped("a").put(0, Long.MIN_VALUE);
        x.taped("b").put(0, Long.MAX_VALUE);
        x.taped("c").put(0, -1);
        x.seal(0, 1, 2);
        due.is("value", x.value(1, 0), Long.MIN_VALUE);
        due.is("status", x.status(), 0);
        due.is("value", x.value(1, 1), Long.MAX_VALUE);
        due.is("value", x.value(1, 2), -1);
        due.is("value 3", x.value(1, 3), 0);
        due.is("status", x.status(), BitAlmanac.BAD);
        due.is("status again", x.status(), BitAlmanac.BAD);
        x.number(5);
        due.is("other acts leave it", x.status(), BitAlmanac.BAD);
        due.is("value of a draft", x.value(0, 0), 0);
        due.is("status", x.status(), BitAlmanac.OTHER);
        due.is("value of nothing", x.value(2, 0), 0);
        due.is("status", x.status(), BitAlmanac.NOTHING);
        due.is("value beyond", x.value(10, 0), 0);
        due.is("status", x.status(), BitAlmanac.BEYOND);
        due.is("value -1", x.value(1, -1), 0);
        due.is("status", x.status(), BitAlmanac.BAD);
        x.value(1, 0);
        due.is("status is 0 again", x.status(), 0);
    }

    private static int ask(Shelf x, int which, int p) {
        switch (which) {
            case 0: return x.number(p);
            case 1: return x.below(p);
            case 2: return x.next(p);
            case 3: return x.prior(p);
            case 4: return x.prefix(p, false);
            case 5: return x.prefix(p, true);
            default: return x.longest(p);
        }
    }

    private static void asksRefused() {
        for (int which = 0; which < 7; which++) {
            Shelf x = shelf(2);
            x.draft(1);
            x.row(2, 3);
            x.taped("ab");
            due.is("ask beyond", ask(x, which, 10), BitAlmanac.BEYOND);
            due.is("ask beyond", ask(x, which, -1), BitAlmanac.BEYOND);
            due.is("ask nothing", ask(x, which, 5), BitAlmanac.NOTHING);
            due.is("ask a draft", ask(x, which, 1), BitAlmanac.OTHER);
            due.is("ask a row", ask(x, which, 2), BitAlmanac.OTHER);
            due.isText("the tape stays", x.readTape(), "ab");
            due.is("ask for 25 bytes", ask(x.taped("abcdefghijklmnopqrstuvwxy"), which, 0), BitAlmanac.BAD);
            due.is("the tape is empty", x.tape(0), BitAlmanac.NONE);
            due.is("ask for no bytes", ask(x, which, 0), BitAlmanac.BAD);
            due.is("ask for a byte 0", ask(x.taped("a\0"), which, 0), BitAlmanac.BAD);
            x.lose(0, which % 2);
            due.is("ask for no bytes, table lost", ask(x, which, 0), BitAlmanac.BAD);
            due.is("ask, table lost", ask(x.taped("ab"), which, 0), BitAlmanac.MISSING);
            due.is("the tape is empty", x.tape(0), BitAlmanac.NONE);
        }
    }

    private static void numbersRefused() {
        Shelf x = shelf(3);
        x.draft(1);
        x.taped("xyz");
        due.is("name beyond", x.name(10, 0), BitAlmanac.BEYOND);
        due.is("name of nothing", x.name(5, 0), BitAlmanac.NOTHING);
        due.is("name of a draft", x.name(1, 0), BitAlmanac.OTHER);
        due.is("name -1", x.name(0, -1), BitAlmanac.BAD);
        due.is("name 7", x.name(0, 7), BitAlmanac.BAD);
        due.is("common beyond", x.common(-1, 0, 0), BitAlmanac.BEYOND);
        due.is("common of nothing", x.common(5, 0, 0), BitAlmanac.NOTHING);
        due.is("common of a draft", x.common(1, 0, 0), BitAlmanac.OTHER);
        due.is("common -1, 0", x.common(0, -1, 0), BitAlmanac.BAD);
        due.is("common 0, -1", x.common(0, 0, -1), BitAlmanac.BAD);
        due.is("common 7, 0", x.common(0, 7, 0), BitAlmanac.BAD);
        due.is("common 0, 7", x.common(0, 0, 7), BitAlmanac.BAD);
        x.lose(0, 0);
        due.is("name, table lost", x.name(0, 0), BitAlmanac.MISSING);
        due.is("name 7, table lost", x.name(0, 7), BitAlmanac.BAD);
        due.is("common, table lost", x.common(0, 0, 1), BitAlmanac.MISSING);
        due.is("common 0, 7, table lost", x.common(0, 0, 7), BitAlmanac.BAD);
        due.isText("the tape stays", x.readTape(), "xyz");
    }

    private static void withoutTables() {
        for (int kind = 2; kind <= 5; kind++) {
            for (int which = 0; which <= 1; which++) {
                Shelf x = new Shelf();
                x.bound(0, kind, EIGHTS);
                x.lose(0, which);
                due.is("number", x.taped(EIGHTS[1]).number(0), BitAlmanac.MISSING);
                due.is("value needs no table", x.value(0, 2), 2);
                due.is("status", x.status(), 0);
                x.mend(0);
                due.is("number when mended", x.taped(EIGHTS[1]).number(0), 1);
            }
        }
    }
}
