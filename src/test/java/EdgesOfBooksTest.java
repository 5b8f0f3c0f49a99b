/** Promises 15 to 25, sentence by sentence, each at its edge, in books of each kind. */
public final class EdgesOfBooksTest {
    private static final Due due = new Due("EdgesOfBooksTest");
    private static final String LONGEST = Names.LONGEST;
    private static final int LEAST = Integer.MIN_VALUE, MOST = Integer.MAX_VALUE;

    public static void main(String[] args) {
        count();
        number();
        numberNone();
        name();
        nameBad();
        value();
        valueRefused();
        status();
        below();
        next();
        nextNone();
        prior();
        priorNone();
        prefix();
        prefixNone();
        longest();
        longestNone();
        common();
        commonBad();
        due.end();
    }

    /** "ab", "abc", "abd", "b" and the longest name are in it. */
    private static Shelf shelf(int kind) {
        return new Shelf().bound(0, kind, "b", "abd", "ab", LONGEST, "abc");
    }

    private static Shelf eights() {
        return new Shelf().bound(0, 5, "aaaaaaaa", "aaaaaaab", "b\u00ff\u00ff\u00ff\u00ff\u00ff\u00ff\u00ff");
    }

    /** Names "n" and a byte from 1 on. */
    private static Shelf many(int kind, int names) {
        Shelf x = new Shelf();
        x.draft(1);
        for (int i = 1; i <= names; i++) {
            x.fed(kind == 5 ? "nnnnnnn" + (char) i : "n" + (char) i).put(1, -i);
        }
        x.seal(1, 0, kind);
        return x;
    }

    private static void count() {
        due.sentence(15, "How many NAMES a BOOK or DRAFT has, BITS a BARE ROW.");
        Shelf x = new Shelf();
        x.draft(0);
        due.is("a draft without names", x.count(0), 0);
        x.fed("a").put(0, 1);
        due.is("a draft with one", x.count(0), 1);
        x.row(1, 0);
        due.is("a row without bits", x.count(1), 0);
        x.row(1, 4000);
        due.is("a row with the most bits", x.count(1), 4000);
        x.lose(1, 0);
        due.is("a row without a table", x.count(1), 4000);
        due.is("nothing", x.count(2), BitAlmanac.NOTHING);
        due.is("count(-1)", x.count(-1), BitAlmanac.BEYOND);
        due.is("count(10)", x.count(10), BitAlmanac.BEYOND);
        for (int kind = 1; kind <= 5; kind++) {
            due.is("a book of one name", many(kind, 1).count(0), 1);
            x = many(kind, 100);
            due.is("a book of 100 names", x.count(0), 100);
            due.is("its draft", x.count(1), 100);
        }
    }

    private static void number() {
        due.sentence(16, "TAPE: N: its number in the BOOK");
        for (int kind = 1; kind <= 4; kind++) {
            Shelf x = shelf(kind);
            String[] names = {"ab", "abc", LONGEST, "abd", "b"};
            for (int k = 0; k < names.length; k++) {
                due.is("number of " + names[k], x.fed(names[k]).number(0), k);
            }
            x = many(kind, 100);
            due.is("the first of 100", x.fed("n\u0001").number(0), 0);
            due.is("the last of 100", x.fed("n" + (char) 100).number(0), 99);
        }
        Shelf x = many(5, 100);
        due.is("the first of 100", x.fed("nnnnnnn\u0001").number(0), 0);
        due.is("the last of 100", x.fed("nnnnnnn" + (char) 100).number(0), 99);
    }

    private static void numberNone() {
        due.sentence(16, "NONE: it is not there.");
        String[] others = {"a", "aa", "abb", "abcc", LONGEST.substring(0, 23), LONGEST.substring(0, 23) + "y", "abe",
            "ba", "\u0001", "\u00ff"};
        for (int kind = 1; kind <= 4; kind++) {
            Shelf x = shelf(kind);
            for (String other : others) {
                due.is("number of " + other, x.fed(other).number(0), BitAlmanac.NONE);
            }
        }
        Shelf x = eights();
        for (String other : new String[] {"aaaaaaa", "aaaaaaac", "aaaaaaaaa", "b", "\u00ff", LONGEST}) {
            due.is("number of " + other + " in SPLIT", x.fed(other).number(0), BitAlmanac.NONE);
        }
    }

    private static void name() {
        due.sentence(17, "NAME k of the BOOK is THE TAPE: how many bytes it has.");
        for (int kind = 1; kind <= 4; kind++) {
            Shelf x = new Shelf().bound(0, kind, "\u0001", LONGEST).fed("t".repeat(1000));
            due.is("name 0", x.name(0, 0), 1);
            due.isText("the tape was full", x.readTape(), "\u0001");
            due.is("name 1", x.name(0, 1), 24);
            due.isText("the tape had a byte", x.readTape(), LONGEST);
            due.is("it can be fed on", x.feed('y', 1), 25);
            x.cut(0);
            due.is("name 0", x.name(0, 0), 1);
            due.isText("the tape was empty", x.readTape(), "\u0001");
        }
        Shelf x = eights();
        due.is("name 2 of SPLIT", x.name(0, 2), 8);
        due.isText("its bytes", x.readTape(), "b\u00ff\u00ff\u00ff\u00ff\u00ff\u00ff\u00ff");
    }

    private static void nameBad() {
        due.sentence(17, "BAD: there is none.");
        for (int kind = 1; kind <= 5; kind++) {
            for (int names : new int[] {1, 100}) {
                Shelf x = many(kind, names).fed("tt");
                due.is("name -1", x.name(0, -1), BitAlmanac.BAD);
                due.is("name " + names, x.name(0, names), BitAlmanac.BAD);
                due.is("name least", x.name(0, LEAST), BitAlmanac.BAD);
                due.is("name most", x.name(0, MOST), BitAlmanac.BAD);
                due.isText("the tape", x.readTape(), "tt");
                due.is("name 0", x.name(0, 0), kind == 5 ? 8 : 2);
                due.is("the last name", x.name(0, names - 1), kind == 5 ? 8 : 2);
                due.is("its last byte", x.tape(kind == 5 ? 7 : 1), names);
            }
        }
    }

    private static void value() {
        due.sentence(18, "The VALUE of NAME k of the BOOK");
        for (int kind = 1; kind <= 5; kind++) {
            Shelf x = many(kind, 100);
            due.is("value 0", x.value(0, 0), -1);
            due.is("value 99", x.value(0, 99), -100);
            due.is("status", x.status(), 0);
        }
        Shelf x = new Shelf();
        x.draft(0);
        x.fed("a").put(0, Long.MIN_VALUE);
        x.fed("b").put(0, Long.MAX_VALUE);
        x.seal(0, 1, 4);
        due.is("the least", x.value(1, 0), Long.MIN_VALUE);
        due.is("the most", x.value(1, 1), Long.MAX_VALUE);
    }

    private static void valueRefusedIs(Shelf x, int p, int k, int want) {
        due.is("value(" + p + ", " + k + ")", x.value(p, k), 0);
        due.is("status of it", x.status(), want);
    }

    private static void valueRefused() {
        due.sentence(18, "0, and status() tells it, if this is refused (BAD: there is none).");
        Shelf x = many(2, 3);
        x.row(2, 5);
        valueRefusedIs(x, 0, -1, BitAlmanac.BAD);
        valueRefusedIs(x, 0, 3, BitAlmanac.BAD);
        valueRefusedIs(x, 0, LEAST, BitAlmanac.BAD);
        valueRefusedIs(x, 0, MOST, BitAlmanac.BAD);
        valueRefusedIs(x, 1, 0, BitAlmanac.OTHER);
        valueRefusedIs(x, 2, 0, BitAlmanac.OTHER);
        valueRefusedIs(x, 3, 0, BitAlmanac.NOTHING);
        valueRefusedIs(x, -1, 0, BitAlmanac.BEYOND);
        valueRefusedIs(x, 10, -1, BitAlmanac.BEYOND);
        due.is("value 2 is there", x.value(0, 2), -3);
        due.is("status", x.status(), 0);
    }

    private static void status() {
        due.sentence(19, "What the latest value() was refused with; 0: it was not.");
        Shelf x = many(1, 2);
        due.is("at first", x.status(), 0);
        x.value(0, 2);
        due.is("behind a refused one", x.status(), BitAlmanac.BAD);
        due.is("again", x.status(), BitAlmanac.BAD);
        x.value(9, 0);
        due.is("behind another one", x.status(), BitAlmanac.NOTHING);
        x.number(0);
        x.name(0, 0);
        x.count(-1);
        due.is("behind other acts", x.status(), BitAlmanac.NOTHING);
        x.value(0, 1);
        due.is("behind one that was not refused", x.status(), 0);
        x.name(0, 2);
        due.is("behind another act that was refused", x.status(), 0);
    }

    private static void below() {
        due.sentence(20, "TAPE: N: how many NAMES of the BOOK come ahead of it.");
        for (int kind = 1; kind <= 4; kind++) {
            Shelf x = shelf(kind);
            due.is("below the first", x.fed("ab").below(0), 0);
            due.is("below what comes ahead of all", x.fed("\u0001").below(0), 0);
            due.is("below what the first begins with", x.fed("a").below(0), 0);
            due.is("below what begins with the first", x.fed("ab\u0001").below(0), 1);
            due.is("below the last", x.fed("b").below(0), 4);
            due.is("below what comes behind all", x.fed("b\u0001").below(0), 5);
            due.is("below 255", x.fed("\u00ff").below(0), 5);
            due.is("below 24 bytes", x.fed(LONGEST).below(0), 2);
            x = many(kind, 100);
            due.is("below what comes behind 100", x.fed("o").below(0), 100);
        }
        Shelf x = eights();
        due.is("below the first of SPLIT", x.fed("aaaaaaaa").below(0), 0);
        due.is("below a longer one", x.fed("aaaaaaaa\u0001").below(0), 1);
        due.is("below a shorter one", x.fed("b").below(0), 2);
        due.is("below all", x.fed("c").below(0), 3);
    }

    private static void next() {
        due.sentence(21, "TAPE: N: the number of the first NAME behind it");
        for (int kind = 1; kind <= 4; kind++) {
            Shelf x = shelf(kind);
            due.is("behind what comes ahead of all", x.fed("\u0001").next(0), 0);
            due.is("behind what the first begins with", x.fed("a").next(0), 0);
            due.is("behind the first", x.fed("ab").next(0), 1);
            due.is("behind what begins with the first", x.fed("ab\u0001").next(0), 1);
            due.is("behind the last but one", x.fed("abd").next(0), 4);
            due.is("behind one that is not there", x.fed("abe").next(0), 4);
        }
        Shelf x = eights();
        due.is("behind the first of SPLIT", x.fed("aaaaaaaa").next(0), 1);
        due.is("behind a shorter one", x.fed("aaaaaaa").next(0), 0);
        due.is("behind a longer one", x.fed("aaaaaaabb").next(0), 2);
    }

    private static void nextNone() {
        due.sentence(21, "NONE.");
        for (int kind = 1; kind <= 4; kind++) {
            Shelf x = shelf(kind);
            due.is("behind the last", x.fed("b").next(0), BitAlmanac.NONE);
            due.is("behind what begins with the last", x.fed("b\u0001").next(0), BitAlmanac.NONE);
            due.is("behind 255", x.fed("\u00ff").next(0), BitAlmanac.NONE);
        }
        due.is("behind the last of SPLIT", eights().fed("c").next(0), BitAlmanac.NONE);
    }

    private static void prior() {
        due.sentence(22, "TAPE: N: the number of the last NAME ahead of it");
        for (int kind = 1; kind <= 4; kind++) {
            Shelf x = shelf(kind);
            due.is("ahead of the second", x.fed("abc").prior(0), 0);
            due.is("ahead of what begins with the first", x.fed("ab\u0001").prior(0), 0);
            due.is("ahead of the last", x.fed("b").prior(0), 3);
            due.is("ahead of what begins with the last", x.fed("b\u0001").prior(0), 4);
            due.is("ahead of 255", x.fed("\u00ff").prior(0), 4);
        }
        Shelf x = eights();
        due.is("ahead of the second of SPLIT", x.fed("aaaaaaab").prior(0), 0);
        due.is("ahead of a shorter one", x.fed("b").prior(0), 1);
        due.is("ahead of 255", x.fed("\u00ff").prior(0), 2);
    }

    private static void priorNone() {
        due.sentence(22, "NONE.");
        for (int kind = 1; kind <= 4; kind++) {
            Shelf x = shelf(kind);
            due.is("ahead of the first", x.fed("ab").prior(0), BitAlmanac.NONE);
            due.is("ahead of what the first begins with", x.fed("a").prior(0), BitAlmanac.NONE);
            due.is("ahead of 1", x.fed("\u0001").prior(0), BitAlmanac.NONE);
        }
        due.is("ahead of the first of SPLIT", eights().fed("aaaaaaaa").prior(0), BitAlmanac.NONE);
    }

    private static void prefixIs(Shelf x, String begin, int first, int last) {
        due.is("the first with " + begin, x.fed(begin).prefix(0, false), first);
        due.is("the last with " + begin, x.fed(begin).prefix(0, true), last);
    }

    private static void prefix() {
        due.sentence(23, "TAPE: N: of the NAMES that begin so (also itself) the number of the first (last false) or last "
            + "one");
        for (int kind = 1; kind <= 4; kind++) {
            Shelf x = shelf(kind);
            prefixIs(x, "a", 0, 3);
            prefixIs(x, "ab", 0, 3);
            prefixIs(x, "abc", 1, 2);
            prefixIs(x, "abcd", 2, 2);
            prefixIs(x, LONGEST, 2, 2);
            prefixIs(x, "abd", 3, 3);
            prefixIs(x, "b", 4, 4);
            prefixIs(many(kind, 100), "n", 0, 99);
            prefixIs(many(kind, 1), "n\u0001", 0, 0);
        }
        prefixIs(eights(), "a", 0, 1);
        prefixIs(eights(), "aaaaaaab", 1, 1);
        prefixIs(eights(), "b", 2, 2);
    }

    private static void prefixNone() {
        due.sentence(23, "none: -10 less the number of NAMES ahead of it.");
        for (int kind = 1; kind <= 4; kind++) {
            Shelf x = shelf(kind);
            prefixIs(x, "\u0001", -10, -10);
            prefixIs(x, "aa", -10, -10);
            prefixIs(x, "ab\u0001", -11, -11);
            prefixIs(x, LONGEST.substring(0, 23) + "y", -13, -13);
            prefixIs(x, "abe", -14, -14);
            prefixIs(x, "ba", -15, -15);
            prefixIs(x, "\u00ff", -15, -15);
            prefixIs(many(kind, 100), "o", -110, -110);
        }
        prefixIs(eights(), "aaaaaaaaa", -11, -11);
        prefixIs(eights(), "c", -13, -13);
    }

    private static void longest() {
        due.sentence(24, "TAPE: N: the number of the longest NAME with which it begins (also itself)");
        for (int kind = 1; kind <= 4; kind++) {
            Shelf x = shelf(kind);
            due.is("a name of two bytes", x.fed("ab").longest(0), 0);
            due.is("one byte more", x.fed("abb").longest(0), 0);
            due.is("a longer one goes ahead of a shorter one", x.fed("abc").longest(0), 1);
            due.is("one byte less than the longest", x.fed(LONGEST.substring(0, 23)).longest(0), 1);
            due.is("the longest", x.fed(LONGEST).longest(0), 2);
            due.is("24 bytes that begin with one", x.fed("b".repeat(24)).longest(0), 4);
            due.is("a name of one byte", x.fed("b").longest(0), 4);
        }
        due.is("of SPLIT", eights().fed("aaaaaaab").longest(0), 1);
        due.is("of SPLIT, one byte more", eights().fed("aaaaaaab\u0001").longest(0), 1);
    }

    private static void longestNone() {
        due.sentence(24, "NONE.");
        for (int kind = 1; kind <= 4; kind++) {
            Shelf x = shelf(kind);
            due.is("one byte less", x.fed("a").longest(0), BitAlmanac.NONE);
            due.is("another second byte", x.fed("ac").longest(0), BitAlmanac.NONE);
            due.is("another first byte", x.fed("c").longest(0), BitAlmanac.NONE);
        }
        due.is("of SPLIT", eights().fed("aaaaaaa").longest(0), BitAlmanac.NONE);
    }

    private static void common() {
        due.sentence(25, "How many bytes NAMES a and b of the BOOK have alike at their beginnings.");
        for (int kind = 1; kind <= 4; kind++) {
            Shelf x = shelf(kind);
            due.is("of one that is the other's beginning", x.common(0, 0, 1), 2);
            due.is("the other way round", x.common(0, 1, 0), 2);
            due.is("of one with itself", x.common(0, 2, 2), 24);
            due.is("of the first with itself", x.common(0, 0, 0), 2);
            due.is("of the last with itself", x.common(0, 4, 4), 1);
            due.is("of abd and the longest", x.common(0, 3, 2), 2);
            due.is("of none", x.common(0, 0, 4), 0);
            x.bound(1, kind, "axc", "ayc");
            due.is("what is alike behind does not count", x.common(1, 0, 1), 1);
        }
        due.is("of SPLIT", eights().common(0, 0, 1), 7);
        due.is("of SPLIT, none", eights().common(0, 2, 1), 0);
    }

    private static void commonBad() {
        due.sentence(25, "BAD: there are not both.");
        for (int kind = 1; kind <= 5; kind++) {
            Shelf x = many(kind, 3);
            for (int wrong : new int[] {-1, 3, LEAST, MOST}) {
                due.is("common(" + wrong + ", 0)", x.common(0, wrong, 0), BitAlmanac.BAD);
                due.is("common(0, " + wrong + ")", x.common(0, 0, wrong), BitAlmanac.BAD);
                due.is("common twice " + wrong, x.common(0, wrong, wrong), BitAlmanac.BAD);
            }
            due.is("common(0, 2)", x.common(0, 0, 2), kind == 5 ? 7 : 1);
        }
    }
}
