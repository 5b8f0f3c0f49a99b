/**
 * A shelf of ten places for drafts, sealed books of names and bare rows of bits, with a tape for
 * names and images. Every answer below 0 that the document calls a refusal leaves the shelf as it was.
 */
public final class BitAlmanac {
    public static final int NONE = -1, BEYOND = -2, NOTHING = -3, OTHER = -4, BAD = -5, MISSING = -6, FULL = -7;

    private static final int PLACES = 10;
    private static final int MOST_NAMES = 100;
    private static final int MOST_NAME_BYTES = 24;
    private static final int MOST_TAPE_BYTES = 1000;
    private static final int MOST_ROW_BITS = 4000;
    private static final int MOST_NODES = MOST_NAMES * MOST_NAME_BYTES + 1;
    private static final int SPLIT_NAME_BYTES = 8;
    private static final int LEAST_IMAGE_BYTES = 7;

    private static final int PLAIN = 1, FORKED = 2, FOLDED = 4, SPLIT = 5, DRAFT = 6, BARE_ROW = 7;
    private static final int EITHER = 0, BOTH = 1, FIRST_ONLY = 2;

    private final Thing[] places;
    private final Tape reel;
    private final Witness shown;
    private final Witness asked;
    private final Binder binder;
    private final Listing pending;
    private int valueRefusal;

    public BitAlmanac() {
        places = new Thing[PLACES];
        reel = new Tape();
        shown = new Witness();
        asked = new Witness();
        binder = new Binder();
        pending = new Listing(MOST_NAMES);
        valueRefusal = 0;
    }

    // ---- the tape

    public int feed(long w, int n) {
        if (n < 1 || n > 8) {
            return BAD;
        }
        if (reel.used + n > MOST_TAPE_BYTES) {
            return FULL;
        }
        reel.addNumber(w, n);
        return reel.used;
    }

    public int cut(int n) {
        if (n < 0 || n > reel.used) {
            return BAD;
        }
        reel.used = n;
        return n;
    }

    public int tape(int i) {
        return i >= 0 && i < reel.used ? reel.bytes[i] : NONE;
    }

    // ---- places

    public int draft(int p) {
        if (isBeyond(p)) {
            return BEYOND;
        }
        places[p] = new Draft(new Listing(MOST_NAMES));
        return 0;
    }

    public int row(int p, int n) {
        if (isBeyond(p)) {
            return BEYOND;
        }
        if (n < 0 || n > MOST_ROW_BITS) {
            return BAD;
        }
        places[p] = new BareRow(new Row(n));
        return n;
    }

    public int clear(int p) {
        if (isBeyond(p)) {
            return BEYOND;
        }
        int held = kindHeld(p);
        places[p] = null;
        return held;
    }

    public int share(int p, int q) {
        if (isBeyond(p) || isBeyond(q)) {
            return BEYOND;
        }
        if (places[p] == null) {
            return NOTHING;
        }
        places[q] = places[p];
        return kindHeld(q);
    }

    public int kind(int p) {
        return isBeyond(p) ? BEYOND : kindHeld(p);
    }

    // ---- drafts

    public int put(int p, long v) {
        Draft draft = draftAt(p);
        if (draft == null) {
            return refusalAt(p);
        }
        Name name = reel.takeName();
        return name == null ? BAD : draft.list.enter(name, v);
    }

    public int unput(int p) {
        Draft draft = draftAt(p);
        if (draft == null) {
            return refusalAt(p);
        }
        Name name = reel.takeName();
        return name == null ? BAD : draft.list.strike(name);
    }

    public int seal(int p, int q, int kind) {
        if (isBeyond(p) || isBeyond(q)) {
            return BEYOND;
        }
        Draft draft = draftAt(p);
        if (draft == null) {
            return refusalAt(p);
        }
        return shelve(q, binder.bind(draft.list, kind));
    }

    public int unseal(int p, int q) {
        if (isBeyond(p) || isBeyond(q)) {
            return BEYOND;
        }
        Book book = bookAt(p);
        if (book == null) {
            return refusalAt(p);
        }
        if (book.lacksTable()) {
            return MISSING;
        }
        places[q] = new Draft(book.list.copyWithRoom(MOST_NAMES));
        return book.list.size;
    }

    public int merge(int p, int q, int r, int what, int kind) {
        if (isBeyond(p) || isBeyond(q) || isBeyond(r)) {
            return BEYOND;
        }
        if (places[p] == null || places[q] == null) {
            return NOTHING;
        }
        Book first = bookAt(p);
        Book second = bookAt(q);
        if (first == null || second == null) {
            return OTHER;
        }
        if (what < EITHER || what > FIRST_ONLY || !isBookKind(kind)) {
            return BAD;
        }
        if (first.lacksTable() || second.lacksTable()) {
            return MISSING;
        }
        if (!pending.takeMerged(first.list, second.list, what)) {
            return FULL;
        }
        return shelve(r, binder.bind(pending, kind));
    }

    // ---- books

    public int count(int p) {
        Thing thing = thingAt(p);
        return thing == null ? refusalAt(p) : thing.size();
    }

    public int number(int p) {
        Book book = bookAt(p);
        Name name = nameFor(book);
        if (book == null || name == null || book.lacksTable()) {
            return refusalOfAsking(p, book, name);
        }
        int ahead = book.list.ahead(name);
        return book.list.hasAt(ahead, name) ? ahead : NONE;
    }

    public int name(int p, int k) {
        Book book = bookAt(p);
        if (book == null) {
            return refusalAt(p);
        }
        if (!book.list.hasNumber(k)) {
            return BAD;
        }
        if (book.lacksTable()) {
            return MISSING;
        }
        reel.used = 0;
        reel.addName(book.list.names[k]);
        return reel.used;
    }

    public long value(int p, int k) {
        Book book = bookAt(p);
        if (book == null) {
            valueRefusal = refusalAt(p);
            return 0L;
        }
        if (!book.list.hasNumber(k)) {
            valueRefusal = BAD;
            return 0L;
        }
        valueRefusal = 0;
        return book.list.values[k];
    }

    public int status() {
        return valueRefusal;
    }

    public int below(int p) {
        Book book = bookAt(p);
        Name name = nameFor(book);
        if (book == null || name == null || book.lacksTable()) {
            return refusalOfAsking(p, book, name);
        }
        return book.list.ahead(name);
    }

    public int next(int p) {
        Book book = bookAt(p);
        Name name = nameFor(book);
        if (book == null || name == null || book.lacksTable()) {
            return refusalOfAsking(p, book, name);
        }
        int behind = book.list.ahead(name);
        if (book.list.hasAt(behind, name)) {
            behind++;
        }
        return behind < book.list.size ? behind : NONE;
    }

    public int prior(int p) {
        Book book = bookAt(p);
        Name name = nameFor(book);
        if (book == null || name == null || book.lacksTable()) {
            return refusalOfAsking(p, book, name);
        }
        int ahead = book.list.ahead(name);
        return ahead > 0 ? ahead - 1 : NONE;
    }

    public int prefix(int p, boolean last) {
        Book book = bookAt(p);
        Name name = nameFor(book);
        if (book == null || name == null || book.lacksTable()) {
            return refusalOfAsking(p, book, name);
        }
        int first = book.list.ahead(name);
        int past = book.list.pastBeginningWith(first, name);
        if (past == first) {
            return -10 - first;
        }
        return last ? past - 1 : first;
    }

    public int longest(int p) {
        Book book = bookAt(p);
        Name name = nameFor(book);
        if (book == null || name == null || book.lacksTable()) {
            return refusalOfAsking(p, book, name);
        }
        return book.list.longestWithin(name);
    }

    public int common(int p, int a, int b) {
        Book book = bookAt(p);
        if (book == null) {
            return refusalAt(p);
        }
        if (!book.list.hasNumber(a) || !book.list.hasNumber(b)) {
            return BAD;
        }
        if (book.lacksTable()) {
            return MISSING;
        }
        return book.list.names[a].alike(book.list.names[b]);
    }

    // ---- bits

    public int rank(int p, int i) {
        Row row = rowAt(p);
        if (row == null) {
            return refusalAt(p);
        }
        if (i < 0 || i > row.bits) {
            return BAD;
        }
        return row.lacksTable() ? MISSING : row.onesAhead(i);
    }

    public int select(int p, int k) {
        Row row = rowAt(p);
        if (row == null) {
            return refusalAt(p);
        }
        if (k < 0 || k >= row.ones) {
            return BAD;
        }
        return row.lacksTable() ? MISSING : row.placeOfOne(k);
    }

    public int bit(int p, int i) {
        Row row = rowAt(p);
        if (row == null) {
            return refusalAt(p);
        }
        return row.hasBit(i) ? row.bitAt(i) : BAD;
    }

    public int flip(int p, int i, boolean one) {
        Row row = bareRowAt(p);
        if (row == null) {
            return refusalAt(p);
        }
        if (!row.hasBit(i)) {
            return BAD;
        }
        int was = row.bitAt(i);
        row.write(i, one);
        row.fillTables();
        return was;
    }

    public int about(int p, int what) {
        Book book = bookAt(p);
        if (book == null) {
            return refusalAt(p);
        }
        switch (what) {
            case 0:
                return book.kind;
            case 1:
                return book.row == null ? 0 : book.row.bits;
            case 2:
                return book.edges;
            case 3:
                return book.partBytes;
            case 4:
                return book.isTree() ? book.list.size : 0;
            case 5:
                return book.lowBits();
            case 6:
                return book.list.width();
            case 7:
                return book.row == null ? 0 : book.row.tableNumbers();
            default:
                return BAD;
        }
    }

    public int lose(int p, int which) {
        Row row = rowAt(p);
        if (row == null) {
            return refusalAt(p);
        }
        if (which != 0 && which != 1) {
            return BAD;
        }
        boolean wasLost = which == 0 ? row.lostA : row.lostB;
        if (which == 0) {
            row.lostA = true;
        } else {
            row.lostB = true;
        }
        return wasLost ? 0 : 1;
    }

    public int mend(int p) {
        Row row = rowAt(p);
        if (row == null) {
            return refusalAt(p);
        }
        int lost = (row.lostA ? 1 : 0) + (row.lostB ? 1 : 0);
        row.lostA = false;
        row.lostB = false;
        row.fillTables();
        return lost;
    }

    // ---- ways down

    public int witness(int p) {
        Book book = forkedAt(p);
        Name name = nameFor(book);
        if (book == null || name == null || book.lacksTable()) {
            return refusalOfAsking(p, book, name);
        }
        return shown.goDown(book, name);
    }

    public int witnessed() {
        return shown.size;
    }

    public int told(int i) {
        return shown.hasNumber(i) ? shown.numbers[i] : NONE - 1;
    }

    public int forge(int i, int v) {
        if (!shown.hasNumber(i)) {
            return BAD;
        }
        int was = shown.numbers[i];
        shown.numbers[i] = v;
        return was;
    }

    public int check(int p) {
        Book book = forkedAt(p);
        Name name = nameFor(book);
        if (book == null || name == null || book.lacksTable()) {
            return refusalOfAsking(p, book, name);
        }
        asked.goDown(book, name);
        return asked.isLike(shown) ? 1 : 0;
    }

    // ---- images

    public int image(int p) {
        Book book = bookAt(p);
        if (book == null) {
            return refusalAt(p);
        }
        if (book.lacksTable()) {
            return MISSING;
        }
        if (book.imageBytes() > MOST_TAPE_BYTES) {
            return FULL;
        }
        reel.writeImage(book);
        return reel.used;
    }

    public int load(int p) {
        if (isBeyond(p)) {
            return BEYOND;
        }
        int kind = reel.readImage(pending);
        reel.used = 0;
        return kind == BAD ? BAD : shelve(p, binder.bind(pending, kind));
    }

    public int same(int p) {
        if (isBeyond(p)) {
            return BEYOND;
        }
        int alike = 0;
        for (int i = 0; i < PLACES; i++) {
            if (places[i] != null && places[i] == places[p]) {
                alike++;
            }
        }
        return alike;
    }

    // ---- what the acts share

    private static boolean isBeyond(int p) {
        return p < 0 || p >= PLACES;
    }

    private static boolean isBookKind(int kind) {
        return kind >= PLAIN && kind <= SPLIT;
    }

    private int kindHeld(int p) {
        Thing thing = thingAt(p);
        return thing == null ? 0 : thing.kind;
    }

    private Thing thingAt(int p) {
        return isBeyond(p) ? null : places[p];
    }

    private Draft draftAt(int p) {
        if (thingAt(p) instanceof Draft draft) {
            return draft;
        }
        return null;
    }

    private Book bookAt(int p) {
        if (thingAt(p) instanceof Book book) {
            return book;
        }
        return null;
    }

    private Book forkedAt(int p) {
        Book book = bookAt(p);
        return book != null && book.kind == FORKED ? book : null;
    }

    private Row bareRowAt(int p) {
        if (thingAt(p) instanceof BareRow bare) {
            return bare.row;
        }
        return null;
    }

    /** Null for a PLAIN book too: it has no row, and is refused like any other thing without one. */
    private Row rowAt(int p) {
        Book book = bookAt(p);
        return book == null ? bareRowAt(p) : book.row;
    }

    /** Why the place has not the thing that an act is for. */
    private int refusalAt(int p) {
        if (isBeyond(p)) {
            return BEYOND;
        }
        return places[p] == null ? NOTHING : OTHER;
    }

    /** Without a book the tape is not read, so that it stays. */
    private Name nameFor(Book book) {
        return book == null ? null : reel.takeName();
    }

    /** Why an act that asks a book for the tape's name is refused: no book, no name, or else a lost table. */
    private int refusalOfAsking(int p, Book book, Name name) {
        if (book == null) {
            return refusalAt(p);
        }
        return name == null ? BAD : MISSING;
    }

    private int shelve(int p, Book book) {
        if (book == null || isBeyond(p)) {
            return BAD;
        }
        places[p] = book;
        return book.list.size;
    }

    /** What a place can hold; two places that share it hold the same object. */
    private abstract static class Thing {
        final int kind;

        Thing(int kind) {
            this.kind = kind;
        }

        abstract int size();
    }

    private static final class Draft extends Thing {
        final Listing list;

        Draft(Listing list) {
            super(DRAFT);
            this.list = list;
        }

        int size() {
            return list.size;
        }
    }

    private static final class BareRow extends Thing {
        final Row row;

        BareRow(Row row) {
            super(BARE_ROW);
            this.row = row;
        }

        int size() {
            return row.bits;
        }
    }

    /**
     * Every kind keeps its names in order, since each question about names is the same for all kinds;
     * what differs is the row and what about() tells.
     */
    private static final class Book extends Thing {
        final Listing list;
        final Row row; // null: PLAIN
        final int edges;
        final int partBytes;
        final int[] edgeBytes; // empty but for FORKED

        Book(int kind, Listing list, Row row, int edges, int partBytes, int[] edgeBytes) {
            super(kind);
            this.list = list;
            this.row = row;
            this.edges = edges;
            this.partBytes = partBytes;
            this.edgeBytes = edgeBytes;
        }

        int size() {
            return list.size;
        }

        boolean isTree() {
            return kind >= FORKED && kind <= FOLDED;
        }

        boolean lacksTable() {
            return row != null && row.lacksTable();
        }

        int lowBits() {
            return kind == SPLIT ? list.size * (64 - list.highBits()) : 0;
        }

        int imageBytes() {
            return 2 + list.nameBytes() + list.size * (1 + list.width()) + 2;
        }

        /** The edge that leads from a node with this byte, or NONE. */
        int edgeFrom(int node, int label) {
            if (row == null) {
                return NONE;
            }
            int edge = row.onesAhead(row.behindZeros(node));
            while (edge < edgeBytes.length && row.hasBit(edge + node) && row.bitAt(edge + node) == 1) {
                if (edgeBytes[edge] == label) {
                    return edge;
                }
                edge++;
            }
            return NONE;
        }
    }

    /** Never changed once made, so that drafts and books can share it. */
    private static final class Name {
        final int[] bytes;

        Name(int[] bytes) {
            this.bytes = bytes;
        }

        int alike(Name other) {
            int shorter = Math.min(bytes.length, other.bytes.length);
            int same = 0;
            while (same < shorter && bytes[same] == other.bytes[same]) {
                same++;
            }
            return same;
        }

        boolean beginsWith(Name other) {
            return alike(other) == other.bytes.length;
        }

        int compareWith(Name other) {
            int same = alike(other);
            if (same < bytes.length && same < other.bytes.length) {
                return Integer.compare(bytes[same], other.bytes[same]);
            }
            return Integer.compare(bytes.length, other.bytes.length);
        }

        /** The highest bits of the first eight bytes, taken as one number. */
        int highPart(int bits) {
            long whole = 0L;
            for (int i = 0; i < SPLIT_NAME_BYTES && i < bytes.length; i++) {
                whole = (whole << 8) | bytes[i];
            }
            return (int) (whole >>> (64 - bits));
        }
    }

    /** Names in order, each with its value; those from 0 to size - 1 are never null. */
    private static final class Listing {
        final Name[] names;
        final long[] values;
        int size = 0;

        Listing(int room) {
            names = new Name[room];
            values = new long[room];
        }

        boolean hasNumber(int k) {
            return k >= 0 && k < size;
        }

        int ahead(Name name) {
            int k = 0;
            while (k < size && names[k].compareWith(name) < 0) {
                k++;
            }
            return k;
        }

        boolean hasAt(int k, Name name) {
            return hasNumber(k) && names[k].compareWith(name) == 0;
        }

        /** The end of the names from first on that begin with this one. */
        int pastBeginningWith(int first, Name name) {
            int past = Math.max(first, 0);
            while (past < size && names[past].beginsWith(name)) {
                past++;
            }
            return past;
        }

        /** Of the names with which one begins, the longer ones come later in the order. */
        int longestWithin(Name name) {
            for (int k = size - 1; k >= 0; k--) {
                if (name.beginsWith(names[k])) {
                    return k;
                }
            }
            return NONE;
        }

        int enter(Name name, long value) {
            int at = ahead(name);
            if (hasAt(at, name)) {
                values[at] = value;
                return 0;
            }
            if (size >= names.length) {
                return FULL;
            }
            for (int k = size; k > at; k--) {
                names[k] = names[k - 1];
                values[k] = values[k - 1];
            }
            names[at] = name;
            values[at] = value;
            size++;
            return 1;
        }

        int strike(Name name) {
            int at = ahead(name);
            if (!hasAt(at, name)) {
                return 0;
            }
            size--;
            for (int k = at; k < size; k++) {
                names[k] = names[k + 1];
                values[k] = values[k + 1];
            }
            names[size] = null;
            return 1;
        }

        /** Refuses what would not come last, so that the names stay in order and each is there once. */
        boolean append(Name name, long value) {
            boolean isFull = size >= names.length;
            boolean comesLast = size == 0 || names[size - 1].compareWith(name) < 0;
            if (isFull || !comesLast) {
                return false;
            }
            names[size] = name;
            values[size] = value;
            size++;
            return true;
        }

        Listing copyWithRoom(int room) {
            Listing copy = new Listing(Math.max(room, size));
            for (int k = 0; k < size; k++) {
                copy.names[k] = names[k];
                copy.values[k] = values[k];
            }
            copy.size = size;
            return copy;
        }

        /** Becomes the names of one listing, or both, or the first without the second; false: there is no room. */
        boolean takeMerged(Listing first, Listing second, int what) {
            size = 0;
            int i = 0;
            int j = 0;
            for (int step = 0; step < 2 * MOST_NAMES && (first.hasNumber(i) || second.hasNumber(j)); step++) {
                int order = first.orderOf(i, second, j);
                boolean wanted = order == 0 ? what != FIRST_ONLY : order < 0 ? what != BOTH : what == EITHER;
                Listing from = order <= 0 ? first : second;
                int k = order <= 0 ? i : j;
                if (wanted && !append(from.names[k], from.values[k])) {
                    return false;
                }
                i += order <= 0 ? 1 : 0;
                j += order >= 0 ? 1 : 0;
            }
            return true;
        }

        /** A listing that is at its end comes behind the other one. */
        int orderOf(int i, Listing other, int j) {
            if (!hasNumber(i)) {
                return 1;
            }
            return other.hasNumber(j) ? names[i].compareWith(other.names[j]) : -1;
        }

        int nameBytes() {
            int sum = 0;
            for (int k = 0; k < size; k++) {
                sum += names[k].bytes.length;
            }
            return sum;
        }

        boolean allHaveBytes(int length) {
            for (int k = 0; k < size; k++) {
                if (names[k].bytes.length != length) {
                    return false;
                }
            }
            return true;
        }

        int width() {
            int width = 1;
            for (int k = 0; k < size; k++) {
                while (width < 8 && !fits(values[k], width)) {
                    width *= 2;
                }
            }
            return width;
        }

        static boolean fits(long value, int width) {
            int spare = 64 - 8 * width;
            return ((value << spare) >> spare) == value;
        }

        int highBits() {
            int bits = 0;
            while (bits < 31 && (1 << bits) <= size) {
                bits++;
            }
            return bits;
        }
    }

    private static final class Row {
        final int bits;
        final long[] words;
        final int[] tableA;
        final int[] tableB;
        boolean lostA = false;
        boolean lostB = false;
        int ones = 0;

        Row(int bits) {
            this.bits = bits;
            // one word more than is full: the rank of the row's end looks there, too
            words = new long[bits / 64 + 1];
            tableA = new int[bits / 512 + 1];
            tableB = new int[bits / 64 + 1];
        }

        boolean hasBit(int i) {
            return i >= 0 && i < bits;
        }

        int bitAt(int i) {
            return (int) (words[i / 64] >>> (i % 64)) & 1;
        }

        void write(int i, boolean one) {
            if (!hasBit(i)) {
                return;
            }
            ones -= bitAt(i);
            words[i / 64] &= ~(1L << (i % 64));
            if (one) {
                words[i / 64] |= 1L << (i % 64);
                ones++;
            }
        }

        boolean lacksTable() {
            return lostA || lostB;
        }

        /** A lost table is left as it was, since nothing reads it till it is mended. */
        void fillTables() {
            int all = 0;
            int inBlock = 0;
            for (int j = 0; j < words.length; j++) {
                if (j % 8 == 0) {
                    inBlock = 0;
                    if (!lostA) {
                        tableA[j / 8] = all;
                    }
                }
                if (!lostB) {
                    tableB[j] = inBlock;
                }
                int here = Long.bitCount(words[j]);
                all += here;
                inBlock += here;
            }
        }

        int tableNumbers() {
            return (lostA ? 0 : tableA.length) + (lostB ? 0 : tableB.length);
        }

        /** For i from 0 to bits. */
        int onesAhead(int i) {
            long aheadInWord = words[i / 64] & ((1L << (i % 64)) - 1);
            return tableA[i / 512] + tableB[i / 64] + Long.bitCount(aheadInWord);
        }

        /** For k from 0 to ones - 1. */
        int placeOfOne(int k) {
            int block = 0;
            while (block + 1 < tableA.length && tableA[block + 1] <= k) {
                block++;
            }
            int left = k - tableA[block];
            int word = block * 8;
            while (word + 1 < tableB.length && word + 1 < block * 8 + 8 && tableB[word + 1] <= left) {
                word++;
            }
            left -= tableB[word];
            for (int at = word * 64; at < bits; at++) {
                left -= bitAt(at);
                if (left < 0) {
                    return at;
                }
            }
            return NONE;
        }

        /** The first bit with so many 0s ahead of it, found by halving: how many there are only grows. */
        int behindZeros(int zeros) {
            int low = 0;
            int high = bits;
            for (int step = 0; step < 32 && low < high; step++) {
                int middle = (low + high) / 2;
                if (middle - onesAhead(middle) >= zeros) {
                    high = middle;
                } else {
                    low = middle + 1;
                }
            }
            return low;
        }
    }

    /** Makes books. Its rows are made once, since a tree can have 2401 nodes. */
    private static final class Binder {
        private final int[] alike = new int[MOST_NAMES]; // of each name with the one ahead of it
        private final int[] first = new int[MOST_NODES]; // the first name that begins with what the node stands for
        private final int[] depth = new int[MOST_NODES]; // how many bytes the node stands for
        private final int[] stem = new int[MOST_NODES]; // how many bytes the node above stands for
        private final int[] degree = new int[MOST_NODES]; // how many edges lead from the node
        private int nodes = 0;

        /** Null: there can be no such book. */
        Book bind(Listing source, int kind) {
            if (!isBookKind(kind) || source.size < 1 || source.size > MOST_NAMES) {
                return null;
            }
            if (kind == SPLIT && !source.allHaveBytes(SPLIT_NAME_BYTES)) {
                return null;
            }
            Listing list = source.copyWithRoom(source.size);
            int[] noBytes = new int[0];
            if (kind == PLAIN) {
                return new Book(kind, list, null, 0, list.nameBytes(), noBytes);
            }
            if (kind == SPLIT) {
                return new Book(kind, list, splitRow(list), 0, 0, noBytes);
            }
            growTree(list, kind == FORKED);
            int[] edgeBytes = kind == FORKED ? edgeBytes(list) : noBytes;
            return new Book(kind, list, treeRow(), nodes - 1, stringBytes(list, kind == FOLDED), edgeBytes);
        }

        /** The 1 of name k has k 1s ahead of it, and the 0 of each lower high part. */
        private Row splitRow(Listing list) {
            int highBits = list.highBits();
            Row row = new Row(list.size + (1 << highBits));
            for (int k = 0; k < list.size; k++) {
                row.write(list.names[k].highPart(highBits) + k, true);
            }
            row.fillTables();
            return row;
        }

        /** Nodes come in the order of their numbers: all of a level are added ahead of the next level's. */
        private void growTree(Listing list, boolean byteByByte) {
            for (int k = 0; k < list.size; k++) {
                alike[k] = k == 0 ? 0 : list.names[k].alike(list.names[k - 1]);
            }
            nodes = 0;
            addNode(0, 0, 0);
            for (int node = 0; node < nodes && node < MOST_NODES; node++) {
                int before = nodes;
                addBelow(list, node, byteByByte);
                degree[node] = nodes - before;
            }
        }

        private void addBelow(Listing list, int node, boolean byteByByte) {
            int length = depth[node];
            int end = pastAlike(first[node], length, list.size);
            for (int k = first[node]; k < end; k++) {
                boolean goesOn = list.names[k].bytes.length > length;
                boolean withNewByte = alike[k] <= length;
                if (goesOn && withNewByte) {
                    addNode(k, byteByByte ? length + 1 : lengthInCommon(list, k, length + 1), length);
                }
            }
        }

        private void addNode(int name, int length, int lengthAbove) {
            if (nodes >= MOST_NODES) {
                return;
            }
            first[nodes] = name;
            depth[nodes] = length;
            stem[nodes] = lengthAbove;
            nodes++;
        }

        /** The end of the names that have so many bytes alike with this one. */
        private int pastAlike(int name, int length, int end) {
            int past = name + 1;
            while (past < end && alike[past] >= length) {
                past++;
            }
            return past;
        }

        /** How many bytes all those names have alike that have so many alike with this one. */
        private int lengthInCommon(Listing list, int name, int length) {
            int past = pastAlike(name, length, list.size);
            int least = list.names[name].bytes.length;
            for (int k = name + 1; k < past; k++) {
                least = Math.min(least, alike[k]);
            }
            return least;
        }

        private Row treeRow() {
            Row row = new Row(2 * nodes - 1);
            int at = 0;
            for (int node = 0; node < nodes; node++) {
                for (int edge = 0; edge < degree[node]; edge++) {
                    row.write(at, true);
                    at++;
                }
                at++;
            }
            row.fillTables();
            return row;
        }

        private int[] edgeBytes(Listing list) {
            int[] bytes = new int[nodes - 1];
            for (int edge = 0; edge < bytes.length; edge++) {
                bytes[edge] = list.names[first[edge + 1]].bytes[stem[edge + 1]];
            }
            return bytes;
        }

        private int stringBytes(Listing list, boolean folded) {
            int sum = 0;
            for (int node = 1; node < nodes; node++) {
                if (!folded || !isStringBefore(list, node)) {
                    sum += depth[node] - stem[node];
                }
            }
            return sum;
        }

        private boolean isStringBefore(Listing list, int node) {
            for (int before = 1; before < node; before++) {
                if (isSameString(list, before, node)) {
                    return true;
                }
            }
            return false;
        }

        private boolean isSameString(Listing list, int one, int other) {
            int length = depth[one] - stem[one];
            if (length != depth[other] - stem[other]) {
                return false;
            }
            int[] ones = list.names[first[one]].bytes;
            int[] others = list.names[first[other]].bytes;
            for (int i = 0; i < length; i++) {
                if (ones[stem[one] + i] != others[stem[other] + i]) {
                    return false;
                }
            }
            return true;
        }
    }

    private static final class Tape {
        final int[] bytes = new int[MOST_TAPE_BYTES];
        int used = 0;

        void add(int value) {
            if (used < MOST_TAPE_BYTES) {
                bytes[used] = value & 255;
                used++;
            }
        }

        void addNumber(long number, int width) {
            for (int i = width - 1; i >= 0; i--) {
                add((int) (number >>> (8 * i)));
            }
        }

        void addName(Name name) {
            for (int i = 0; i < name.bytes.length; i++) {
                add(name.bytes[i]);
            }
        }

        /** The tape is empty behind this, also if it was no name (null). */
        Name takeName() {
            Name name = nameAt(0, used);
            used = 0;
            return name;
        }

        /** Null: there is no name of this length. */
        Name nameAt(int from, int length) {
            if (length < 1 || length > MOST_NAME_BYTES || from < 0 || from + length > used) {
                return null;
            }
            int[] copy = new int[length];
            for (int i = 0; i < length; i++) {
                copy[i] = bytes[from + i];
                if (copy[i] == 0) {
                    return null;
                }
            }
            return new Name(copy);
        }

        long signedAt(int from, int width) {
            long number = 0L;
            for (int i = from; i < from + width && i < used; i++) {
                number = (number << 8) | bytes[i];
            }
            int spare = 64 - 8 * width;
            return (number << spare) >> spare;
        }

        int sum() {
            int sum = 0;
            for (int i = 0; i < used; i++) {
                sum += bytes[i];
            }
            return sum & 255;
        }

        void writeImage(Book book) {
            int width = book.list.width();
            used = 0;
            add(book.kind);
            add(book.list.size);
            for (int k = 0; k < book.list.size; k++) {
                Name name = book.list.names[k];
                add(name.bytes.length);
                addName(name);
                addNumber(book.list.values[k], width);
            }
            add(width);
            add(-sum());
        }

        /** Reads an image's names and values: its kind, or BAD if no image is so, whatever the kind. */
        int readImage(Listing into) {
            into.size = 0;
            if (used < LEAST_IMAGE_BYTES || sum() != 0) {
                return BAD;
            }
            int width = bytes[used - 2];
            if (width != 1 && width != 2 && width != 4 && width != 8) {
                return BAD;
            }
            int end = used - 2;
            int at = 2;
            for (int k = 0; k < bytes[1]; k++) {
                Name name = at < end ? nameAt(at + 1, bytes[at]) : null;
                if (name == null) {
                    return BAD;
                }
                int valueAt = at + 1 + name.bytes.length;
                if (valueAt + width > end || !into.append(name, signedAt(valueAt, width))) {
                    return BAD;
                }
                at = valueAt + width;
            }
            return at == end && into.width() == width ? bytes[0] : BAD;
        }
    }

    private static final class Witness {
        final int[] numbers = new int[3 * (MOST_NAME_BYTES + 1)];
        int size = 0;

        boolean hasNumber(int i) {
            return i >= 0 && i < size;
        }

        /** Becomes the way down of a name in a FORKED book with its tables: whether the name is there. */
        int goDown(Book book, Name name) {
            size = 0;
            int node = 0;
            for (int i = 0; i < name.bytes.length; i++) {
                int edge = book.edgeFrom(node, name.bytes[i]);
                if (edge == NONE) {
                    break;
                }
                // ahead of an edge's bit are the 1s of the edges before and the 0s of the nodes before
                addThree(edge + node, edge, name.bytes[i]);
                node = edge + 1;
            }
            // all bytes went on to an end just if the name is in the book
            int there = book.list.hasAt(book.list.ahead(name), name) ? 1 : 0;
            addThree(-1, node, there);
            return there;
        }

        private void addThree(int one, int two, int three) {
            if (size + 3 > numbers.length) {
                return;
            }
            numbers[size] = one;
            numbers[size + 1] = two;
            numbers[size + 2] = three;
            size += 3;
        }

        boolean isLike(Witness other) {
            if (size != other.size) {
                return false;
            }
            for (int i = 0; i < size; i++) {
                if (numbers[i] != other.numbers[i]) {
                    return false;
                }
            }
            return true;
        }
    }
}
