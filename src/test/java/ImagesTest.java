/** Promises 38 and 39: image, load. */
public final class ImagesTest {
    private static final Due due = new Due("ImagesTest");

    public static void main(String[] args) {
        image();
        imageRefused();
        imageTillFull();
        load();
        loadEveryKindAndWidth();
        loadRefused();
        loadEveryChangedByte();
        due.end();
    }

    private static String tapeNumbers(Shelf x) {
        StringBuilder text = new StringBuilder();
        for (char b : x.readTape().toCharArray()) {
            text.append((int) b).append(' ');
        }
        return text.toString();
    }

    private static void image() {
        Shelf x = new Shelf();
        x.draft(0);
        x.taped("b").put(0, -2);
        x.taped("ab").put(0, 258);
        x.seal(0, 1, 3);
        x.feed(77, 1);
        due.is("image", x.image(1), 13);
        int rest = 256 - (3 + 2 + 2 + 97 + 98 + 1 + 2 + 1 + 98 + 255 + 254 + 2) % 256;
        due.isText("its bytes", tapeNumbers(x), "3 2 2 97 98 1 2 1 98 255 254 2 " + rest + " ");
        due.is("the book stays", x.count(1), 2);
    }

    private static void imageRefused() {
        Shelf x = new Shelf();
        x.bound(1, 2, "a");
        x.draft(0);
        x.row(2, 1);
        x.taped("q");
        due.is("image beyond", x.image(10), BitAlmanac.BEYOND);
        due.is("image beyond", x.image(-1), BitAlmanac.BEYOND);
        due.is("image of nothing", x.image(5), BitAlmanac.NOTHING);
        due.is("image of a draft", x.image(0), BitAlmanac.OTHER);
        due.is("image of a row", x.image(2), BitAlmanac.OTHER);
        x.lose(1, 0);
        due.is("image, table lost", x.image(1), BitAlmanac.MISSING);
        due.isText("the tape stays", x.readTape(), "q");
    }

    private static Shelf eightyThree(String firstName) {
        Shelf x = new Shelf();
        x.draft(0);
        x.fed(firstName).put(0, 1);
        for (int i = 2; i <= 83; i++) {
            x.fed((char) i + "123456789").put(0, 1);
        }
        x.seal(0, 1, 1);
        return x;
    }

    private static void imageTillFull() {
        Shelf x = eightyThree("\u0001123456789");
        due.is("83 names of 10 bytes", x.image(1), 1000);
        due.is("load it", x.load(2), 83);
        x = eightyThree("\u00011234567890");
        x.fed("q");
        due.is("one byte more", x.image(1), BitAlmanac.FULL);
        due.isText("the tape stays", x.readTape(), "q");
        x.seal(0, 3, 2);
        x.lose(3, 1);
        due.is("a lost table comes ahead", x.image(3), BitAlmanac.MISSING);
    }

    private static void load() {
        Shelf x = new Shelf();
        x.fedWithSum(2, 2, 1, 97, 5, 2, 97, 98, 251, 1);
        due.is("load", x.load(4), 2);
        due.is("the tape is empty", x.tape(0), BitAlmanac.NONE);
        due.is("kind", x.kind(4), 2);
        due.is("value 0", x.value(4, 0), 5);
        due.is("value 1", x.value(4, 1), -5);
        due.is("name 1", x.name(4, 1), 2);
        due.isText("its bytes", x.readTape(), "ab");
        due.is("no table is lost", x.rank(4, 5), 2);
        x.lose(4, 0);
        x.share(4, 5);
        x.cut(0);
        x.fedWithSum(1, 1, 1, 97, 5, 1);
        due.is("load over a book", x.load(4), 1);
        due.is("it is held elsewhere", x.kind(5), 2);
        x.fedWithSum(1, 1, 1, 97, 5, 1);
        due.is("load beyond", x.load(10), BitAlmanac.BEYOND);
        due.is("load beyond", x.load(-1), BitAlmanac.BEYOND);
        due.is("the tape stays", x.load(0), 1);
    }

    private static void loadEveryKindAndWidth() {
        long[] values = {127, -129, 40000, Long.MIN_VALUE + 1};
        for (int kind = 1; kind <= 5; kind++) {
            for (long value : values) {
                Shelf x = new Shelf();
                x.draft(0);
                x.taped("abcdefgh").put(0, value);
                x.taped("abcdefgi").put(0, -1);
                x.seal(0, 1, kind);
                x.image(1);
                String bytes = tapeNumbers(x);
                due.is("load", x.load(2), 2);
                due.is("kind", x.kind(2), kind);
                due.is("value", x.value(2, 0), value);
                due.is("value", x.value(2, 1), -1);
                due.isText("row", x.bookBits(2), x.bookBits(1));
                x.image(2);
                due.isText("its image", tapeNumbers(x), bytes);
            }
        }
    }

    private static void badIs(String why, int... bytes) {
        Shelf x = new Shelf();
        x.row(3, 8);
        x.fedWithSum(bytes);
        due.is(why, x.load(3), BitAlmanac.BAD);
        due.is("the tape is empty", x.tape(0), BitAlmanac.NONE);
        due.is("the place stays", x.kind(3), 7);
    }

    private static void loadRefused() {
        badIs("empty");
        badIs("a kind alone", 1);
        badIs("no names", 1, 0, 1);
        badIs("no names, long", 1, 0, 1, 97, 5, 1);
        badIs("kind 0", 0, 1, 1, 97, 5, 1);
        badIs("kind 6", 6, 1, 1, 97, 5, 1);
        badIs("kind 5 with one byte", 5, 1, 1, 97, 5, 1);
        badIs("two names told, one there", 1, 2, 1, 97, 5, 1);
        badIs("one name told, two there", 1, 1, 1, 97, 5, 1, 98, 5, 1);
        badIs("a byte too many", 1, 1, 1, 97, 5, 9, 1);
        badIs("a byte too few", 1, 1, 2, 97, 5, 1);
        badIs("a name without bytes", 1, 1, 0, 5, 5, 1);
        badIs("a name with a byte 0", 1, 1, 2, 97, 0, 5, 1);
        badIs("names out of order", 1, 2, 1, 98, 5, 1, 97, 5, 1);
        badIs("a name twice", 1, 2, 1, 97, 5, 1, 97, 5, 1);
        badIs("width 0", 1, 1, 1, 97, 0);
        badIs("width 3", 1, 1, 1, 97, 1, 1, 1, 3);
        badIs("width 2 for 5", 1, 1, 1, 97, 0, 5, 2);
        badIs("width 2 for -5", 1, 1, 1, 97, 255, 251, 2);
        badIs("width 8 for 2^31 - 1", 1, 1, 1, 97, 0, 0, 0, 0, 127, 255, 255, 255, 8);
        badIs("width 16", 1, 1, 1, 97, 1, 0, 0, 0, 0, 0, 0, 0, 0, 0, 0, 0, 0, 0, 0, 0, 16);
        int[] tooLong = new int[2 + 1 + 25 + 1 + 1];
        java.util.Arrays.fill(tooLong, 97);
        tooLong[0] = 1;
        tooLong[1] = 1;
        tooLong[2] = 25;
        tooLong[29] = 1;
        badIs("a name of 25 bytes", tooLong);
        int[] tooMany = new int[2 + 101 * 3 + 1];
        tooMany[0] = 1;
        tooMany[1] = 101;
        for (int i = 0; i < 101; i++) {
            tooMany[2 + 3 * i] = 1;
            tooMany[3 + 3 * i] = 1 + i;
        }
        tooMany[tooMany.length - 1] = 1;
        badIs("101 names", tooMany);
    }

    /** A single byte that is another one breaks the sum, whatever it says. */
    private static void loadEveryChangedByte() {
        Shelf x = new Shelf();
        x.bound(0, 4, "ab", "b");
        int length = x.image(0);
        for (int i = 0; i < length; i++) {
            x.image(0);
            String text = x.readTape();
            char other = (char) ((text.charAt(i) + 1) % 256);
            x.taped(text.substring(0, i) + other + text.substring(i + 1));
            due.is("load with byte " + i + " changed", x.load(1), BitAlmanac.BAD);
        }
        x.image(0);
        x.cut(length - 1);
        due.is("load cut by one", x.load(1), BitAlmanac.BAD);
        x.image(0);
        x.feed(0, 1);
        due.is("load with a 0 behind", x.load(1), BitAlmanac.BAD);
        due.is("nothing came of those", x.kind(1), 0);
    }
}
