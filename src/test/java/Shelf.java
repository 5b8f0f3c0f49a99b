/**
 * A new object whose calls are counted: behind the 512th the document promises nothing, so no test may look there.
 * Its acts are those of the class; the ways to feed names and to look at things are the tests' own.
 */
final class Shelf {
    static final int MOST_CALLS = 512;

    private final BitAlmanac almanac = new BitAlmanac();
    private int calls = 0;

    private BitAlmanac counted() {
        calls++;
        if (calls > MOST_CALLS) {
            throw new IllegalStateException("a test makes more than 512 calls on one object");
        }
        return almanac;
    }

    int calls() {
        return calls;
    }

    // ---- the acts

    int feed(long w, int n) { return counted().feed(w, n); }
    int cut(int n) { return counted().cut(n); }
    int tape(int i) { return counted().tape(i); }
    int draft(int p) { return counted().draft(p); }
    int row(int p, int n) { return counted().row(p, n); }
    int clear(int p) { return counted().clear(p); }
    int share(int p, int q) { return counted().share(p, q); }
    int kind(int p) { return counted().kind(p); }
    int put(int p, long v) { return counted().put(p, v); }
    int unput(int p) { return counted().unput(p); }
    int seal(int p, int q, int kind) { return counted().seal(p, q, kind); }
    int unseal(int p, int q) { return counted().unseal(p, q); }
    int merge(int p, int q, int r, int what, int kind) { return counted().merge(p, q, r, what, kind); }
    int count(int p) { return counted().count(p); }
    int number(int p) { return counted().number(p); }
    int name(int p, int k) { return counted().name(p, k); }
    long value(int p, int k) { return counted().value(p, k); }
    int status() { return counted().status(); }
    int below(int p) { return counted().below(p); }
    int next(int p) { return counted().next(p); }
    int prior(int p) { return counted().prior(p); }
    int prefix(int p, boolean last) { return counted().prefix(p, last); }
    int longest(int p) { return counted().longest(p); }
    int common(int p, int a, int b) { return counted().common(p, a, b); }
    int rank(int p, int i) { return counted().rank(p, i); }
    int select(int p, int k) { return counted().select(p, k); }
    int bit(int p, int i) { return counted().bit(p, i); }
    int flip(int p, int i, boolean one) { return counted().flip(p, i, one); }
    int about(int p, int what) { return counted().about(p, what); }
    int lose(int p, int which) { return counted().lose(p, which); }
    int mend(int p) { return counted().mend(p); }
    int witness(int p) { return counted().witness(p); }
    int witnessed() { return counted().witnessed(); }
    int told(int i) { return counted().told(i); }
    int forge(int i, int v) { return counted().forge(i, v); }
    int check(int p) { return counted().check(p); }
    int image(int p) { return counted().image(p); }
    int load(int p) { return counted().load(p); }
    int same(int p) { return counted().same(p); }

    // ---- what the tests do with them

    /** The text's characters, one byte each, come behind the tape's, eight a call. */
    Shelf fed(String text) {
        for (int from = 0; from < text.length(); from += 8) {
            int n = Math.min(8, text.length() - from);
            long w = 0;
            for (int i = 0; i < n; i++) {
                w = w << 8 | text.charAt(from + i);
            }
            feed(w, n);
        }
        return this;
    }

    /** The tape becomes the text. */
    Shelf taped(String text) {
        cut(0);
        return fed(text);
    }

    /** A draft with the names; the value of each is how many came before it. The tape is empty behind that. */
    Shelf drafted(int p, String... names) {
        draft(p);
        cut(0);
        for (int i = 0; i < names.length; i++) {
            fed(names[i]).put(p, i);
        }
        return this;
    }

    /** A book of a kind, by way of a draft at the same place. */
    Shelf bound(int p, int kind, String... names) {
        drafted(p, names);
        seal(p, p, kind);
        return this;
    }

    /** The bytes come behind the tape's, and behind them the one that makes their sum 0. */
    Shelf fedWithSum(int... bytes) {
        StringBuilder text = new StringBuilder();
        int sum = 0;
        for (int b : bytes) {
            text.append((char) b);
            sum += b;
        }
        return fed(text.append((char) (-sum & 255)).toString());
    }

    String readTape() {
        StringBuilder text = new StringBuilder();
        for (int i = 0, b = tape(0); b >= 0; b = tape(i)) {
            text.append((char) b);
            i++;
        }
        return text.toString();
    }

    String readName(int p, int k) {
        int length = name(p, k);
        StringBuilder text = new StringBuilder();
        for (int i = 0; i < length; i++) {
            text.append((char) tape(i));
        }
        return text.toString();
    }

    /** The names of a book in the order of their numbers, each with its value. */
    String listed(int p) {
        StringBuilder text = new StringBuilder();
        int n = count(p);
        for (int k = 0; k < n; k++) {
            text.append(k == 0 ? "" : " ").append(readName(p, k)).append('=').append(value(p, k));
        }
        return text.toString();
    }

    /** The bits from one to another that is not read any more. */
    String bits(int p, int from, int to) {
        StringBuilder text = new StringBuilder();
        for (int i = from; i < to; i++) {
            text.append(bit(p, i));
        }
        return text.toString();
    }

    String bookBits(int p) {
        return bits(p, 0, about(p, 1));
    }

    String readWitness() {
        StringBuilder text = new StringBuilder();
        int n = witnessed();
        for (int i = 0; i < n; i++) {
            text.append(i == 0 ? "" : " ").append(told(i));
        }
        return text.toString();
    }
}
