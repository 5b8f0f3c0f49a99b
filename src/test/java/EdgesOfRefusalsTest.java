import java.util.ArrayList;
import java.util.List;

/** The part on REFUSALS: which one comes first, what they do to the tape, and that they change nothing else. */
public final class EdgesOfRefusalsTest {
    private static final Due due = new Due("EdgesOfRefusalsTest");
    private static final int NOTHING_HELD = 8;
    private static final int SPARE = 9;
    private static final String NAME = "aaaaaaab";
    private static final String NO_NAME = "a\0";
    private static final List<Act> ACTS = new ArrayList<>();
    private static final List<Refusal> REFUSALS = new ArrayList<>();

    interface Call {
        long on(Shelf x, int p);
    }

    /**
     * An act on a place, the kinds of things that it is for, and whether a lost table refuses it.
     * The document says that some acts are marked, but shows no marks: those that need names or ranks are taken.
     */
    private record Act(String name, String kinds, boolean marked, boolean reads, Call right, Call wrong) {
        boolean isFor(int kind) {
            return kinds.indexOf('0' + kind) >= 0;
        }
    }

    /** A call that is refused: the place, how it is called, and what is lost (bit 0: A, bit 1: B). */
    private record Refusal(Act act, int p, boolean wrongNumber, String tape, int lost, int want) {
        Shelf before() {
            Shelf x = shelf();
            if (p >= 0 && p <= 7 && (lost & 1) != 0) {
                x.lose(p, 0);
            }
            if (p >= 0 && p <= 7 && (lost & 2) != 0) {
                x.lose(p, 1);
            }
            return x.fed(tape);
        }

        long answerOn(Shelf x) {
            return (wrongNumber ? act.wrong : act.right).on(x, p);
        }

        boolean leavesTape() {
            boolean ofPlace = want == BitAlmanac.BEYOND || want == BitAlmanac.NOTHING || want == BitAlmanac.OTHER;
            return ofPlace || !act.reads;
        }

        String label() {
            return act.name + " on place " + p + (wrongNumber ? " with a wrong number" : "")
                + (tape.equals(NO_NAME) ? " and a wrong tape" : "") + (lost == 0 ? "" : ", lost " + lost);
        }
    }

    public static void main(String[] args) {
        listActs();
        listRefusals();
        beyond();
        nothing();
        other();
        bad();
        missing();
        notMissing();
        others();
        severalPlaces();
        tapeIsEmpty();
        nothingElseChanges();
        due.end();
    }

    /** Place k holds a book of kind k, 6 a draft, 7 a bare row, 0 a draft with one name, 8 and 9 nothing. */
    private static Shelf shelf() {
        Shelf x = new Shelf().drafted(0, "a");
        x.drafted(6, "aaaaaaaa", "aaaaaaab");
        for (int kind = 1; kind <= 5; kind++) {
            x.seal(6, kind, kind);
        }
        x.row(7, 70);
        x.flip(7, 69, true);
        x.fed("aa").witness(2);
        return x;
    }

    private static void act(String name, String kinds, boolean marked, Call right, Call wrong) {
        ACTS.add(new Act(name, kinds, marked, false, right, wrong));
    }

    private static void listActs() {
        for (Reading reading : Reading.values()) {
            StringBuilder kinds = new StringBuilder();
            for (int kind = 1; kind <= 7; kind++) {
                kinds.append(reading.isFor(kind) ? String.valueOf(kind) : "");
            }
            ACTS.add(new Act(reading.toString(), kinds.toString(), !reading.isForDrafts(), true, reading::ask, null));
        }
        act("seal", "6", false, (x, p) -> x.seal(p, SPARE, 1), (x, p) -> x.seal(p, SPARE, 6));
        act("unseal", "12345", true, (x, p) -> x.unseal(p, SPARE), null);
        act("merge p", "12345", true, (x, p) -> x.merge(p, 1, SPARE, 0, 1), (x, p) -> x.merge(p, 1, SPARE, 3, 1));
        act("merge q", "12345", true, (x, p) -> x.merge(1, p, SPARE, 0, 1), (x, p) -> x.merge(1, p, SPARE, 0, 6));
        act("count", "1234567", false, (x, p) -> x.count(p), null);
        act("name", "12345", true, (x, p) -> x.name(p, 1), (x, p) -> x.name(p, 2));
        act("value", "12345", false, (x, p) -> statusOfValue(x, p, 1), (x, p) -> statusOfValue(x, p, 2));
        act("common", "12345", true, (x, p) -> x.common(p, 0, 1), (x, p) -> x.common(p, 0, 2));
        act("rank", "23457", true, (x, p) -> x.rank(p, 0), (x, p) -> x.rank(p, -1));
        act("select", "23457", true, (x, p) -> x.select(p, 0), (x, p) -> x.select(p, 70));
        act("bit", "23457", false, (x, p) -> x.bit(p, 0), (x, p) -> x.bit(p, 70));
        act("flip", "7", false, (x, p) -> x.flip(p, 0, true), (x, p) -> x.flip(p, 70, true));
        act("about", "12345", false, (x, p) -> x.about(p, 7), (x, p) -> x.about(p, 8));
        act("lose", "23457", false, (x, p) -> x.lose(p, 1), (x, p) -> x.lose(p, 2));
        act("mend", "23457", false, (x, p) -> x.mend(p), null);
        act("image", "12345", true, (x, p) -> x.image(p), null);
    }

    /** A value that is refused is 0. */
    private static long statusOfValue(Shelf x, int p, int k) {
        long value = x.value(p, k);
        int status = x.status();
        return status == 0 ? 0 : status + value;
    }

    private static void listRefusals() {
        for (Act act : ACTS) {
            for (int wrong = 0; wrong <= (act.wrong == null ? 0 : 1); wrong++) {
                for (String tape : new String[] {NAME, NO_NAME}) {
                    for (int p : new int[] {-1, 10, Integer.MIN_VALUE, Integer.MAX_VALUE}) {
                        REFUSALS.add(new Refusal(act, p, wrong == 1, tape, 0, BitAlmanac.BEYOND));
                    }
                    REFUSALS.add(new Refusal(act, NOTHING_HELD, wrong == 1, tape, 0, BitAlmanac.NOTHING));
                    for (int kind = 1; kind <= 7; kind++) {
                        listRefusalsOn(act, kind, wrong == 1, tape);
                    }
                }
            }
        }
    }

    private static void listRefusalsOn(Act act, int kind, boolean wrongNumber, String tape) {
        boolean hasTables = kind != 1 && kind != 6;
        boolean bad = wrongNumber || act.reads && tape.equals(NO_NAME);
        for (int lost = 0; lost <= (hasTables ? 3 : 0); lost++) {
            int want = !act.isFor(kind) ? BitAlmanac.OTHER : bad ? BitAlmanac.BAD : BitAlmanac.MISSING;
            if (want != BitAlmanac.MISSING || act.marked && lost != 0) {
                REFUSALS.add(new Refusal(act, kind, wrongNumber, tape, lost, want));
            }
        }
    }

    private static void answersAre(int want) {
        for (Refusal refusal : REFUSALS) {
            if (refusal.want == want) {
                due.is(refusal.label(), refusal.answerOn(refusal.before()), want);
            }
        }
    }

    private static void beyond() {
        due.sentence(0, "of several the first one told here: BEYOND a PLACE that there is not");
        answersAre(BitAlmanac.BEYOND);
        for (int p : new int[] {-1, 10, Integer.MIN_VALUE, Integer.MAX_VALUE}) {
            Shelf x = shelf();
            due.is("draft", x.draft(p), BitAlmanac.BEYOND);
            due.is("row", x.row(p, 5), BitAlmanac.BEYOND);
            due.is("row with a wrong number", x.row(p, 4001), BitAlmanac.BEYOND);
            due.is("clear", x.clear(p), BitAlmanac.BEYOND);
            due.is("share", x.share(p, 1), BitAlmanac.BEYOND);
            due.is("share to it", x.share(1, p), BitAlmanac.BEYOND);
            due.is("share nothing to it", x.share(NOTHING_HELD, p), BitAlmanac.BEYOND);
            due.is("kind", x.kind(p), BitAlmanac.BEYOND);
            due.is("same", x.same(p), BitAlmanac.BEYOND);
            due.is("load", x.load(p), BitAlmanac.BEYOND);
            for (int held : new int[] {NOTHING_HELD, 7, 6, 1}) {
                due.is("seal to it", x.seal(held, p, 6), BitAlmanac.BEYOND);
                due.is("unseal to it", x.unseal(held, p), BitAlmanac.BEYOND);
                due.is("merge to it", x.merge(held, held, p, 3, 6), BitAlmanac.BEYOND);
                due.is("merge with it", x.merge(held, p, SPARE, 3, 6), BitAlmanac.BEYOND);
            }
        }
    }

    private static void nothing() {
        due.sentence(0, "NOTHING the PLACE (of several the first one told that has it) holds nothing");
        answersAre(BitAlmanac.NOTHING);
        Shelf x = shelf();
        due.is("share", x.share(NOTHING_HELD, 1), BitAlmanac.NOTHING);
        for (int p = 0; p <= 9; p++) {
            due.is("clear(" + p + ")", x.clear(p), p == 0 ? 6 : p <= 5 ? p : p == 6 ? 6 : p == 7 ? 7 : 0);
            due.is("count(" + p + ") behind that", x.count(p), BitAlmanac.NOTHING);
        }
    }

    private static void other() {
        due.sentence(0, "OTHER it holds another thing than the act is for");
        answersAre(BitAlmanac.OTHER);
        Shelf x = shelf();
        due.is("seal no names, of a book", x.seal(1, SPARE, 0), BitAlmanac.OTHER);
    }

    private static void bad() {
        due.sentence(0, "BAD THE TAPE, or a number, is not as told");
        answersAre(BitAlmanac.BAD);
    }

    private static void missing() {
        due.sentence(0, "MISSING a TABLE that is LOST is of the ROW (of FORKED to SPLIT the BOOK's ROW), in all acts "
            + "that are marked with *");
        answersAre(BitAlmanac.MISSING);
    }

    /** A PLAIN book has no row; and what needs neither names nor ranks does without tables. */
    private static void notMissing() {
        for (Act act : ACTS) {
            for (int kind = 1; kind <= 7; kind++) {
                if (act.isFor(kind) && (kind == 1 || !act.marked)) {
                    Refusal call = new Refusal(act, kind, false, NAME, kind == 1 || kind == 6 ? 0 : 3, 0);
                    Shelf x = call.before();
                    due.isTrue(call.label() + " is not refused", call.answerOn(x) >= BitAlmanac.NONE);
                }
            }
        }
    }

    private static void others() {
        due.sentence(0, "others as told.");
        Shelf x = new Shelf();
        x.draft(0);
        for (int i = 1; i <= 100; i++) {
            x.fed("n" + (char) i).put(0, i);
        }
        due.is("a wrong tape comes ahead of FULL", x.fed(NO_NAME).put(0, 1), BitAlmanac.BAD);
        due.is("a draft that is full", x.fed("o").put(0, 1), BitAlmanac.FULL);
        x.seal(0, 1, 2);
        x.bound(2, 3, "o");
        x.lose(2, 0);
        due.is("BAD comes ahead of MISSING", x.merge(1, 2, 3, 0, 6), BitAlmanac.BAD);
        due.is("MISSING comes ahead of FULL", x.merge(1, 2, 3, 0, 5), BitAlmanac.MISSING);
        x.mend(2);
        due.is("FULL comes ahead of SPLIT", x.merge(1, 2, 3, 0, 5), BitAlmanac.FULL);
        x.fed("t".repeat(1000));
        due.is("a wrong number comes ahead of FULL", x.feed(1, 9), BitAlmanac.BAD);
        due.is("a tape that is full", x.feed(1, 1), BitAlmanac.FULL);
    }

    /** By the order of refusals NOTHING of either place comes ahead of OTHER of either. */
    private static void severalPlaces() {
        due.sentence(0, "(of several the first one told that has it)");
        Shelf x = shelf();
        due.is("nothing, a book", x.merge(8, 1, SPARE, 0, 1), BitAlmanac.NOTHING);
        due.is("a book, nothing", x.merge(1, 8, SPARE, 0, 1), BitAlmanac.NOTHING);
        due.is("nothing, nothing", x.merge(8, 8, SPARE, 0, 1), BitAlmanac.NOTHING);
        due.is("nothing, a draft", x.merge(8, 6, SPARE, 0, 1), BitAlmanac.NOTHING);
        due.is("a draft, nothing", x.merge(6, 8, SPARE, 0, 1), BitAlmanac.NOTHING);
        due.is("a draft, a book", x.merge(6, 1, SPARE, 0, 1), BitAlmanac.OTHER);
        due.is("a book, a row", x.merge(1, 7, SPARE, 0, 1), BitAlmanac.OTHER);
        due.is("a row, a draft", x.merge(7, 6, SPARE, 0, 1), BitAlmanac.OTHER);
        due.is("two books", x.merge(1, 2, SPARE, 0, 1), 2);
    }

    private static void tapeIsEmpty() {
        due.sentence(0, "An act that reads THE TAPE as a NAME (TAPE: N) finds it empty behind that, whatever it answers "
            + "(but BEYOND, NOTHING, OTHER).");
        for (Refusal refusal : REFUSALS) {
            Shelf x = refusal.before();
            refusal.answerOn(x);
            due.isText("the tape behind " + refusal.label(), x.readTape(), refusal.leavesTape() ? refusal.tape : "");
        }
        Shelf full = new Shelf();
        full.draft(0);
        for (int i = 1; i <= 100; i++) {
            full.fed("n" + (char) i).put(0, i);
        }
        due.is("put, FULL", full.fed("o").put(0, 1), BitAlmanac.FULL);
        due.is("tape(0) behind that", full.tape(0), BitAlmanac.NONE);
        for (Reading act : Reading.values()) {
            for (String tape : new String[] {NAME, "b", "aaaa", "t".repeat(25), "t".repeat(1000), "\0"}) {
                for (int p = 1; p <= 6; p++) {
                    Shelf x = shelf().fed(tape);
                    act.ask(x, p);
                    int first = act.isFor(p) ? BitAlmanac.NONE : tape.charAt(0);
                    due.is("tape(0) behind " + act + " on place " + p, x.tape(0), first);
                }
            }
        }
    }

    /** All that can be seen of the shelf but the tape and the status; drafts are sealed for it. */
    private static String look(Shelf x) {
        StringBuilder seen = new StringBuilder();
        for (int p = 0; p <= 9; p++) {
            int kind = x.kind(p);
            seen.append(p).append(" kind ").append(kind).append(" same ").append(x.same(p));
            if (kind >= 1 && kind <= 5) {
                for (int what = 1; what <= 7; what++) {
                    seen.append(' ').append(x.about(p, what));
                }
                seen.append(x.mend(p));
                seen.append(' ').append(x.listed(p));
            } else if (kind == 6) {
                x.seal(p, p, 1);
                seen.append(' ').append(x.listed(p));
            } else if (kind == 7) {
                seen.append(' ').append(x.rank(p, 70)).append(x.mend(p));
                seen.append(x.rank(p, 70)).append(' ').append(x.select(p, 0)).append(' ').append(x.count(p));
            }
            seen.append('\n');
        }
        return seen.append(x.readWitness()).toString();
    }

    private static void nothingElseChanges() {
        due.sentence(0, "A refused act changes nothing else.");
        for (Refusal refusal : REFUSALS) {
            Shelf x = refusal.before();
            int status = x.status();
            refusal.answerOn(x);
            if (!refusal.act.name.equals("value")) {
                due.is("status behind " + refusal.label(), x.status(), status);
            }
            due.isText("what there is behind " + refusal.label(), look(x), look(refusal.before()));
        }
    }
}
