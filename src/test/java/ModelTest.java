/** Long runs of mixed calls on the class and on the model, which must answer alike. */
public final class ModelTest {
    private static final Due due = new Due("ModelTest");
    private static final int RUNS = 2500;
    private static final int LOOKING = 190; // calls that the look at all things needs at most
    private static final String[] ALPHABETS = {"ab", "abc", "\u0001\u007f\u0080\u00ff", "abcdefghijklmnopqrstuvwxyz"};

    private final Shelf x = new Shelf();
    private final Model m = new Model();
    private final String alphabet;
    private final boolean eights;
    private final int longest;
    private long seed;

    private ModelTest(int run) {
        seed = run * 2654435761L + 12345;
        alphabet = ALPHABETS[pick(ALPHABETS.length)];
        eights = pick(4) == 0;
        longest = pick(2) == 0 ? 4 : 24;
    }

    public static void main(String[] args) {
        for (int run = 0; run < RUNS && due.wrongSoFar() < 20; run++) {
            new ModelTest(run).play(run % 5 == 0, run % 2 == 0);
        }
        due.end();
    }

    /** The same seed gives the same run, so that a fault can be seen again. */
    private int pick(int below) {
        seed = seed * 6364136223846793005L + 1442695040888963407L;
        return (int) ((seed >>> 33) % below);
    }

    private int place() {
        return pick(40) == 0 ? (pick(2) == 0 ? -1 : 10) : pick(pick(3) == 0 ? 10 : 5);
    }

    private int near(int bound) {
        return pick(bound + 3) - 1;
    }

    private void same(String call, long got, long want) {
        due.is(call, got, want);
    }

    /** Every other run looks at all things in the end, and has fewer calls before that. */
    private void play(boolean fill, boolean look) {
        if (fill) {
            same("draft(0)", x.draft(0), m.draft(0));
            while (x.calls() < (look ? 300 : 400)) {
                feedName();
                put(0);
            }
            for (int q = 1; q <= 5; q++) {
                same("seal", x.seal(0, q, q), m.seal(0, q, q));
            }
        }
        // one turn makes ten calls at most
        int most = Shelf.MOST_CALLS - 10 - (look ? LOOKING : 0);
        while (x.calls() <= most) {
            int group = pick(20);
            if (group < 7) {
                drafts();
            } else if (group < 12) {
                asks();
            } else if (group < 15) {
                bits();
            } else if (group < 17) {
                ways();
            } else if (group < 18) {
                images();
            } else {
                placesAndTape();
            }
        }
        if (look) {
            lookAtAll();
        }
    }

    private void feedName() {
        int length = eights && pick(15) != 0 ? 8 : 1 + pick(longest);
        if (pick(60) == 0) {
            length = pick(28);
        }
        for (int done = 0; done < length;) {
            int n = Math.min(8, length - done);
            long w = 0;
            for (int i = 0; i < n; i++) {
                w = w << 8 | (pick(400) == 0 ? 0 : alphabet.charAt(pick(alphabet.length())));
            }
            same("feed", x.feed(w, n), m.feed(w, n));
            done += n;
        }
    }

    private long someValue() {
        long v = (long) pick(1 << 30) << 34 ^ (long) pick(1 << 30) << 10 ^ pick(1 << 10);
        return pick(3) == 0 ? pick(256) - 128 : v >> (8 * pick(8) + pick(2));
    }

    private void put(int p) {
        long v = someValue();
        same("put", x.put(p, v), m.put(p, v));
    }

    private void drafts() {
        int p = place();
        int q = place();
        int r = place();
        int kind = pick(20) == 0 ? pick(9) - 1 : eights && pick(2) == 0 ? 5 : 1 + pick(4);
        int what = pick(20) == 0 ? pick(5) - 1 : pick(3);
        switch (pick(12)) {
            case 0:
                same("draft", x.draft(p), m.draft(p));
                break;
            case 1:
                feedName();
                same("unput", x.unput(p), m.unput(p));
                break;
            case 2:
            case 3:
                same("seal", x.seal(p, q, kind), m.seal(p, q, kind));
                break;
            case 4:
                same("unseal", x.unseal(p, q), m.unseal(p, q));
                break;
            case 5:
                same("merge", x.merge(p, q, r, what, kind), m.merge(p, q, r, what, kind));
                break;
            default:
                feedName();
                put(p);
        }
    }

    private void asks() {
        int p = place();
        int n = Math.max(0, Math.min(100, m.count(p)));
        int a = near(n);
        int b = near(n);
        if (pick(30) != 0 && m.tape(0) < 0) {
            if (pick(3) == 0) {
                same("name", x.name(p, a), m.name(p, a));
                int cut = pick(9);
                same("cut", x.cut(cut), m.cut(cut));
            } else {
                feedName();
            }
        }
        switch (pick(11)) {
            case 0: same("number", x.number(p), m.number(p)); break;
            case 1: same("below", x.below(p), m.below(p)); break;
            case 2: same("next", x.next(p), m.next(p)); break;
            case 3: same("prior", x.prior(p), m.prior(p)); break;
            case 4: same("prefix", x.prefix(p, false), m.prefix(p, false)); break;
            case 5: same("prefix", x.prefix(p, true), m.prefix(p, true)); break;
            case 6: same("longest", x.longest(p), m.longest(p)); break;
            case 7: same("name", x.name(p, a), m.name(p, a)); break;
            case 8: same("common", x.common(p, a, b), m.common(p, a, b)); break;
            case 9: same("count", x.count(p), m.count(p)); break;
            default:
                same("value", x.value(p, a), m.value(p, a));
                same("status", x.status(), m.status());
        }
    }

    private int rowBits(int p) {
        return Math.max(0, m.kind(p) == 7 ? m.count(p) : m.about(p, 1));
    }

    private void bits() {
        int p = place();
        int i = near(rowBits(p));
        int what = near(7);
        int which = pick(20) == 0 ? 3 * pick(2) - 1 : pick(2);
        switch (pick(10)) {
            case 0: same("select", x.select(p, i / 2), m.select(p, i / 2)); break;
            case 1: same("rank", x.rank(p, i), m.rank(p, i)); break;
            case 2: same("bit", x.bit(p, i), m.bit(p, i)); break;
            case 3:
                if (pick(4) == 0) {
                    same("lose", x.lose(p, which), m.lose(p, which));
                }
                break;
            case 4:
            case 5: same("mend", x.mend(p), m.mend(p)); break;
            case 6:
                int n = pick(10) == 0 ? 3990 + pick(15) : pick(1200) - 1;
                if (pick(5) == 0) {
                    same("row", x.row(p, n), m.row(p, n));
                }
                break;
            case 7:
                boolean one = pick(3) != 0;
                same("flip", x.flip(p, i, one), m.flip(p, i, one));
                break;
            default: same("about", x.about(p, what), m.about(p, what));
        }
    }

    private void ways() {
        int p = place();
        int i = near(m.witnessed());
        int v = pick(130) - 1;
        if (pick(3) == 0) {
            int k = pick(20);
            same("name", x.name(p, k), m.name(p, k));
        } else {
            feedName();
        }
        switch (pick(5)) {
            case 0: same("forge", x.forge(i, v), m.forge(i, v)); break;
            case 1: same("check", x.check(p), m.check(p)); break;
            default: same("witness", x.witness(p), m.witness(p));
        }
        same("witnessed", x.witnessed(), m.witnessed());
        same("told", x.told(i), m.told(i));
    }

    private void images() {
        int p = place();
        int q = place();
        same("image", x.image(p), m.image(p));
        if (pick(4) == 0) {
            int cut = pick(40);
            int b = pick(256);
            same("cut", x.cut(cut), m.cut(cut));
            same("feed", x.feed(b, 1), m.feed(b, 1));
        }
        same("load", x.load(q), m.load(q));
        same("kind", x.kind(q), m.kind(q));
    }

    private void placesAndTape() {
        int p = place();
        int q = place();
        int n = near(30);
        switch (pick(8)) {
            case 0: same("clear", x.clear(p), m.clear(p)); break;
            case 1:
            case 2: same("share", x.share(p, q), m.share(p, q)); break;
            case 3: same("kind", x.kind(p), m.kind(p)); break;
            case 4: same("same", x.same(p), m.same(p)); break;
            case 5: same("cut", x.cut(n), m.cut(n)); break;
            case 6: same("tape", x.tape(n), m.tape(n)); break;
            default: same("feed", x.feed(n, n), m.feed(n, n));
        }
    }

    private void lookAtAll() {
        for (int p = 0; p < 10; p++) {
            due.is("kind at the end", x.kind(p), m.kind(p));
            due.is("count at the end", x.count(p), m.count(p));
            due.is("same at the end", x.same(p), m.same(p));
            for (int what = 0; what <= 7; what++) {
                due.is("about at the end", x.about(p, what), m.about(p, what));
            }
        }
        for (int i = 0; i <= m.witnessed(); i++) {
            due.is("told at the end", x.told(i), m.told(i));
        }
    }
}
