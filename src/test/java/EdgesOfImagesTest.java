import java.util.Arrays;

/** Promises 38 and 39, sentence by sentence, each at its edge. */
public final class EdgesOfImagesTest {
    private static final Due due = new Due("EdgesOfImagesTest");
    private static final String LONGEST = Names.LONGEST;

    public static void main(String[] args) {
        image();
        imageWidths();
        imageSum();
        imageFull();
        load();
        loadEmpties();
        loadNoImage();
        loadWrongSum();
        loadKinds();
        loadCounts();
        loadNames();
        loadFullTape();
        loadOrder();
        loadWidths();
        loadSplit();
        due.end();
    }

    private static String tapeNumbers(Shelf x) {
        return Arrays.toString(x.readTape().chars().toArray());
    }

    private static String numbers(int... bytes) {
        int sum = Arrays.stream(bytes).sum();
        int[] all = Arrays.copyOf(bytes, bytes.length + 1);
        all[bytes.length] = -sum & 255;
        return Arrays.toString(all);
    }

    private static Shelf book(int kind, String name, long value) {
        Shelf x = new Shelf();
        x.draft(0);
        x.fed(name).put(0, value);
        x.seal(0, 1, kind);
        return x;
    }

    private static void image() {
        due.sentence(38, "THE TAPE is the IMAGE of a BOOK: its KIND, how many NAMES, then of each, in order: how many bytes, "
            + "these");
        for (int kind = 1; kind <= 4; kind++) {
            Shelf x = new Shelf().bound(0, kind, "b\u00ff", "a").fed("t".repeat(1000));
            due.is("image", x.image(0), 11);
            due.isText("its bytes", tapeNumbers(x), numbers(kind, 2, 1, 'a', 1, 2, 'b', 255, 0, 1));
        }
        Shelf x = book(5, "abcdefgh", 3);
        due.is("image of SPLIT", x.image(1), 14);
        due.isText("its bytes", tapeNumbers(x), numbers(5, 1, 8, 97, 98, 99, 100, 101, 102, 103, 104, 3, 1));
        x = book(1, LONGEST, 0);
        due.is("24 bytes", x.image(1), 30);
        due.is("how many", x.tape(2), 24);
        due.is("the last of them", x.tape(26), 'x');
        x.draft(0);
        for (int i = 1; i <= 100; i++) {
            x.taped(String.valueOf((char) i)).put(0, 0);
        }
        x.seal(0, 1, 3);
        due.is("100 names", x.image(1), 304);
        due.is("how many", x.tape(1), 100);
    }

    private static void imageWidths() {
        due.sentence(38, "its VALUE's WIDTH lowest bytes, the highest first; then the WIDTH");
        long[] values = {127, -128, 128, -129, 32767, 32768, -32769, Integer.MAX_VALUE, Integer.MAX_VALUE + 1L,
            Integer.MIN_VALUE - 1L, Long.MAX_VALUE, Long.MIN_VALUE};
        int[] widths = {1, 1, 2, 2, 2, 4, 4, 4, 8, 8, 8, 8};
        for (int i = 0; i < values.length; i++) {
            int width = widths[i];
            Shelf x = book(1 + i % 4, "a", values[i]);
            due.is("image with " + values[i], x.image(1), 6 + width);
            int[] bytes = new int[5 + width];
            bytes[0] = 1 + i % 4;
            bytes[1] = 1;
            bytes[2] = 1;
            bytes[3] = 'a';
            for (int b = 0; b < width; b++) {
                bytes[4 + b] = (int) (values[i] >> (8 * (width - 1 - b))) & 255;
            }
            bytes[4 + width] = width;
            due.isText("its bytes", tapeNumbers(x), numbers(bytes));
        }
        Shelf x = new Shelf();
        x.draft(0);
        x.fed("a").put(0, -1);
        x.fed("b").put(0, 128);
        x.seal(0, 1, 1);
        x.image(1);
        due.isText("the width of all", tapeNumbers(x), numbers(1, 2, 1, 'a', 255, 255, 1, 'b', 0, 128, 2));
    }

    private static void imageSum() {
        due.sentence(38, "and one byte with which all of them have the sum 0 (modulo 256): how many bytes.");
        // 1 + 1 + 1 + 'a' + v + 1 is 101 + v
        Shelf x = book(1, "a", -101);
        x.image(1);
        due.is("the sum is 0 without it", x.tape(6), 0);
        x = book(1, "a", -100);
        x.image(1);
        due.is("the sum is 1 without it", x.tape(6), 255);
        x = book(1, "a", -102);
        x.image(1);
        due.is("the sum is 255 without it", x.tape(6), 1);
        for (int value = -128; value <= 127; value++) {
            x = book(2, "a", value);
            int length = x.image(1);
            int sum = 0;
            for (int i = 0; i < length; i++) {
                sum += x.tape(i);
            }
            due.is("the sum of all with " + value, sum % 256, 0);
            due.is("no byte behind them", x.tape(length), BitAlmanac.NONE);
        }
    }

    /** A book of 83 names of 10 bytes and so many more: its image has 1000 bytes and so many more. */
    private static Shelf large(int kind, int more) {
        Shelf x = new Shelf();
        x.draft(0);
        x.fed("\u0001123456789" + "x".repeat(more)).put(0, 1);
        for (int i = 2; i <= 83; i++) {
            x.fed((char) i + "123456789").put(0, 1);
        }
        x.seal(0, 1, kind);
        return x;
    }

    private static void imageFull() {
        due.sentence(38, "FULL: more than 1000 (THE TAPE stays).");
        for (int kind = 1; kind <= 4; kind++) {
            Shelf x = large(kind, 0).fed("tt");
            due.is("1000 bytes", x.image(1), 1000);
            due.is("the first", x.tape(0), kind);
            due.is("the width", x.tape(998), 1);
            due.is("none behind the last", x.tape(1000), BitAlmanac.NONE);
            due.is("it is loaded", x.load(2), 83);
            x = large(kind, 1).fed("tt");
            due.is("1001 bytes", x.image(1), BitAlmanac.FULL);
            due.isText("the tape stays", x.readTape(), "tt");
            x.lose(1, 0);
            due.is("1001 bytes, a table lost", x.image(1), kind == 1 ? BitAlmanac.FULL : BitAlmanac.MISSING);
        }
        Shelf x = large(1, 0);
        x.fed("\u0001123456789").put(0, 128);
        x.seal(0, 1, 1);
        due.is("83 bytes more by the width", x.image(1), BitAlmanac.FULL);
    }

    private static void load() {
        due.sentence(39, "is an IMAGE: PLACE p holds its BOOK: how many NAMES.");
        long[] values = {0, -128, 128, -32769, Long.MIN_VALUE, Long.MAX_VALUE};
        for (int kind = 1; kind <= 5; kind++) {
            for (long value : values) {
                Shelf x = book(kind, "abcdefgh", value);
                x.image(1);
                due.is("load", x.load(9), 1);
                due.is("kind", x.kind(9), kind);
                due.isText("the names", x.listed(9), "abcdefgh=" + value);
                due.is("a book of its own", x.same(9), 1);
                for (int what = 0; what <= 7; what++) {
                    due.is("about(" + what + ")", x.about(9, what), x.about(1, what));
                }
                due.isText("its row", x.bookBits(9), x.bookBits(1));
            }
        }
        Shelf x = book(2, "a", 1);
        x.lose(1, 0);
        x.share(1, 2);
        x.fedWithSum(3, 1, 1, 'b', 7, 1);
        due.is("over a book", x.load(1), 1);
        due.is("its kind", x.kind(1), 3);
        due.is("no table is lost", x.mend(1), 0);
        due.is("the book that was there stays elsewhere", x.mend(2), 1);
        x.draft(0);
        for (int i = 1; i <= 100; i++) {
            x.fed(String.valueOf((char) i)).put(0, 0);
        }
        x.seal(0, 1, 3);
        x.image(1);
        due.is("100 names", x.load(0), 100);
    }

    private static void loadEmpties() {
        due.sentence(39, "THE TAPE, empty then (but for BEYOND)");
        Shelf x = new Shelf().fedWithSum(1, 1, 1, 'a', 5, 1);
        for (int p : new int[] {-1, 10, Integer.MIN_VALUE, Integer.MAX_VALUE}) {
            due.is("load(" + p + ")", x.load(p), BitAlmanac.BEYOND);
        }
        due.is("the tape stays", x.tape(6), -(1 + 1 + 1 + 'a' + 5 + 1) & 255);
        due.is("load(0)", x.load(0), 1);
        due.is("the tape is empty", x.tape(0), BitAlmanac.NONE);
        x.fed("no image");
        due.is("no image", x.load(0), BitAlmanac.BAD);
        due.is("the tape is empty", x.tape(0), BitAlmanac.NONE);
        x.fed("t".repeat(1000));
        due.is("no image", x.load(9), BitAlmanac.BAD);
        due.is("the tape is empty", x.tape(0), BitAlmanac.NONE);
        x.fed("beyond").load(10);
        due.isText("the tape stays, though it is no image", x.readTape(), "beyond");
    }

    /** Bytes that are no image, though the sum is 0; and whether the place stays. */
    private static void bad(String why, int... bytes) {
        Shelf x = new Shelf();
        x.row(3, 8);
        due.is(why, x.fedWithSum(bytes).load(3), BitAlmanac.BAD);
        due.is("the tape is empty", x.tape(0), BitAlmanac.NONE);
        due.is("the place stays", x.kind(3), 7);
    }

    private static void good(String why, int names, int... bytes) {
        Shelf x = new Shelf();
        due.is(why, x.fedWithSum(bytes).load(3), names);
        x.image(3);
        due.isText(why + ": its image is the tape that was", tapeNumbers(x), numbers(bytes));
    }

    private static void loadNoImage() {
        due.sentence(39, "BAD: it is none that image() makes.");
        due.is("an empty tape", new Shelf().load(0), BitAlmanac.BAD);
        due.is("a byte 0", new Shelf().fed("\0").load(0), BitAlmanac.BAD);
        int[] whole = {1, 1, 1, 'a', 5, 1};
        good("the least image", 1, whole);
        for (int length = 0; length < whole.length; length++) {
            bad("its first " + length, Arrays.copyOf(whole, length));
        }
        bad("a byte more ahead of the width", 1, 1, 1, 'a', 5, 0, 1);
        bad("a byte more ahead of the width", 1, 1, 1, 'a', 5, 1, 1);
        bad("a byte more behind the width", 1, 1, 1, 'a', 5, 1, 0);
        bad("a byte more, seven in all", 1, 1, 1, 'a', 5, 1, 1);
    }

    private static void loadWrongSum() {
        due.sentence(39, "it is none");
        Shelf x = new Shelf().bound(0, 4, "ab", "b");
        int length = x.image(0);
        String image = x.readTape();
        for (int i = 0; i < length; i++) {
            for (int off : new int[] {1, 255}) {
                char other = (char) ((image.charAt(i) + off) % 256);
                x.cut(0);
                x.fed(image.substring(0, i) + other + image.substring(i + 1));
                due.is("byte " + i + " off by " + off, x.load(1), BitAlmanac.BAD);
            }
        }
        due.is("nothing is there", x.kind(1), 0);
        due.is("the image itself", x.fed(image).load(1), 2);
    }

    private static void loadKinds() {
        due.sentence(39, "BAD: it is none that image() makes.");
        for (int kind = 1; kind <= 4; kind++) {
            good("kind " + kind, 1, kind, 1, 1, 'a', 5, 1);
        }
        bad("kind 0", 0, 1, 1, 'a', 5, 1);
        bad("kind 6", 6, 1, 1, 'a', 5, 1);
        bad("kind 255", 255, 1, 1, 'a', 5, 1);
        bad("kind 7, of rows", 7, 1, 1, 'a', 5, 1);
    }

    /** An image of so many names of one byte, which says that it has as many as told. */
    private static int[] ofNames(int told, int there) {
        int[] bytes = new int[3 + 3 * there];
        bytes[0] = 2;
        bytes[1] = told;
        for (int i = 0; i < there; i++) {
            bytes[2 + 3 * i] = 1;
            bytes[3 + 3 * i] = i + 1;
        }
        bytes[2 + 3 * there] = 1;
        return bytes;
    }

    private static void loadCounts() {
        due.sentence(39, "BAD: it is none that image() makes.");
        good("1 name", 1, ofNames(1, 1));
        good("100 names", 100, ofNames(100, 100));
        bad("101 names", ofNames(101, 101));
        bad("255 names told", ofNames(255, 255));
        bad("no names", ofNames(0, 0));
        bad("no names told, one there", ofNames(0, 1));
        bad("one told, two there", ofNames(1, 2));
        bad("two told, one there", ofNames(2, 1));
        bad("100 told, 99 there", ofNames(100, 99));
    }

    /** An image of one name of so many bytes. */
    private static int[] ofBytes(int told, int there) {
        int[] bytes = new int[5 + there];
        Arrays.fill(bytes, 'n');
        bytes[0] = 3;
        bytes[1] = 1;
        bytes[2] = told;
        bytes[bytes.length - 2] = 9;
        bytes[bytes.length - 1] = 1;
        return bytes;
    }

    private static void loadNames() {
        due.sentence(39, "BAD: it is none that image() makes.");
        good("a name of 1 byte", 1, ofBytes(1, 1));
        good("a name of 24 bytes", 1, ofBytes(24, 24));
        bad("a name of 25 bytes", ofBytes(25, 25));
        bad("a name of 255 bytes", ofBytes(255, 255));
        bad("a name of no bytes", ofBytes(0, 0));
        bad("one byte too few", ofBytes(3, 2));
        bad("one byte too many", ofBytes(2, 3));
        bad("a name as long as all that is left", ofBytes(4, 2));
        good("a name of 255 and 1", 1, 1, 1, 2, 255, 1, 9, 1);
        bad("a byte 0 ahead", 1, 1, 2, 0, 'a', 9, 1);
        bad("a byte 0 behind", 1, 1, 2, 'a', 0, 9, 1);
    }

    /** A full tape whose last name begins at this byte and is said to have so many. */
    private static int[] endingWithin(int last, int told) {
        int[] bytes = new int[999];
        Arrays.fill(bytes, 'n');
        bytes[0] = 1;
        bytes[1] = 100;
        int at = 2;
        for (int i = 1; at < last; i++) {
            int left = last - at;
            int length = left > 52 ? 24 : left > 26 ? left / 2 - 2 : left - 2;
            bytes[at] = length;
            bytes[at + 1] = i;
            at += length + 2;
        }
        bytes[last] = told;
        bytes[998] = 1;
        return bytes;
    }

    private static void loadFullTape() {
        due.sentence(39, "BAD: it is none that image() makes.");
        for (int last = 974; last <= 997; last++) {
            bad("a name of 24 bytes at " + last, endingWithin(last, 24));
            bad("a name of 1 byte at " + last, endingWithin(last, 1));
            bad("a name up to the end from " + last, endingWithin(last, 999 - last));
        }
    }

    private static void loadOrder() {
        due.sentence(39, "BAD: it is none that image() makes.");
        good("in order", 2, 1, 2, 1, 'a', 5, 1, 'b', 5, 1);
        bad("out of order", 1, 2, 1, 'b', 5, 1, 'a', 5, 1);
        bad("a name twice", 1, 2, 1, 'a', 5, 1, 'a', 5, 1);
        bad("a name twice, with two values", 1, 2, 1, 'a', 5, 1, 'a', 6, 1);
        good("a beginning ahead", 2, 1, 2, 1, 'a', 5, 2, 'a', 1, 5, 1);
        bad("a beginning behind", 1, 2, 2, 'a', 1, 5, 1, 'a', 5, 1);
        good("127 ahead of 128", 2, 1, 2, 1, 127, 5, 1, 128, 5, 1);
        bad("128 ahead of 127", 1, 2, 1, 128, 5, 1, 127, 5, 1);
        bad("the last two out of order", 1, 3, 1, 'a', 5, 1, 'c', 5, 1, 'b', 5, 1);
    }

    private static void loadWidths() {
        due.sentence(39, "BAD: it is none that image() makes.");
        good("127 in 1", 1, 1, 1, 1, 'a', 127, 1);
        good("-128 in 1", 1, 1, 1, 1, 'a', 128, 1);
        bad("127 in 2", 1, 1, 1, 'a', 0, 127, 2);
        good("128 in 2", 1, 1, 1, 1, 'a', 0, 128, 2);
        bad("-128 in 2", 1, 1, 1, 'a', 255, 128, 2);
        good("-129 in 2", 1, 1, 1, 1, 'a', 255, 127, 2);
        bad("32767 in 4", 1, 1, 1, 'a', 0, 0, 127, 255, 4);
        good("32768 in 4", 1, 1, 1, 1, 'a', 0, 0, 128, 0, 4);
        bad("-32768 in 4", 1, 1, 1, 'a', 255, 255, 128, 0, 4);
        good("-32769 in 4", 1, 1, 1, 1, 'a', 255, 255, 127, 255, 4);
        bad("2^31 - 1 in 8", 1, 1, 1, 'a', 0, 0, 0, 0, 127, 255, 255, 255, 8);
        good("2^31 in 8", 1, 1, 1, 1, 'a', 0, 0, 0, 0, 128, 0, 0, 0, 8);
        bad("-2^31 in 8", 1, 1, 1, 'a', 255, 255, 255, 255, 128, 0, 0, 0, 8);
        good("-2^31 - 1 in 8", 1, 1, 1, 1, 'a', 255, 255, 255, 255, 127, 255, 255, 255, 8);
        bad("width 0", 1, 1, 1, 'a', 0);
        bad("width 3", 1, 1, 1, 'a', 1, 0, 0, 3);
        bad("width 5", 1, 1, 1, 'a', 1, 0, 0, 0, 0, 5);
        bad("width 16", 1, 1, 1, 'a', 1, 0, 0, 0, 0, 0, 0, 0, 0, 0, 0, 0, 0, 0, 0, 0, 16);
        good("one of two values needs 2", 2, 1, 2, 1, 'a', 0, 5, 1, 'b', 1, 0, 2);
        bad("none of two values needs 2", 1, 2, 1, 'a', 0, 5, 1, 'b', 0, 6, 2);
        bad("width 1 told for 2", 1, 1, 1, 'a', 1, 0, 1);
        bad("width 2 told for 1", 1, 1, 1, 'a', 5, 2);
    }

    private static void loadSplit() {
        due.sentence(39, "BAD: it is none that image() makes.");
        good("8 bytes", 1, 5, 1, 8, 1, 2, 3, 4, 5, 6, 7, 8, 9, 1);
        bad("7 bytes", 5, 1, 7, 1, 2, 3, 4, 5, 6, 7, 9, 1);
        bad("9 bytes", 5, 1, 9, 1, 2, 3, 4, 5, 6, 7, 8, 9, 9, 1);
        bad("8 and 7 bytes", 5, 2, 8, 1, 2, 3, 4, 5, 6, 7, 8, 9, 7, 2, 2, 3, 4, 5, 6, 7, 9, 1);
    }
}
