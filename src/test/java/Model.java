import java.util.ArrayDeque;
import java.util.ArrayList;
import java.util.Arrays;
import java.util.HashSet;
import java.util.List;
import java.util.Map;
import java.util.Queue;
import java.util.Set;
import java.util.TreeMap;
import java.util.TreeSet;

/**
 * The document told again in another way: trees that are really grown, rows that are counted bit by bit.
 * Names are texts of characters 1 to 255, whose own order is that of the document.
 */
final class Model {
    private static final int NONE = -1, BEYOND = -2, NOTHING = -3, OTHER = -4, BAD = -5, MISSING = -6, FULL = -7;

    static final class Thing {
        int kind;
        TreeMap<String, Long> names = new TreeMap<>();
        List<Boolean> row;
        boolean[] lost = new boolean[2];
        int edges;
        int bytes;
        int low;
        Node root;
    }

    static final class Node {
        String text = "";
        TreeMap<Character, Node> below = new TreeMap<>();
        boolean end;
        int number;
        List<Integer> edgeBits = new ArrayList<>();
        List<Integer> edgeRanks = new ArrayList<>();
    }

    private final Thing[] places = new Thing[10];
    private List<Integer> tape = new ArrayList<>();
    private List<Integer> way = new ArrayList<>();
    private int status = 0;

    int feed(long w, int n) {
        if (n < 1 || n > 8) {
            return BAD;
        }
        if (tape.size() + n > 1000) {
            return FULL;
        }
        for (int i = n - 1; i >= 0; i--) {
            tape.add((int) (w >> (8 * i)) & 255);
        }
        return tape.size();
    }

    int cut(int n) {
        if (n < 0 || n > tape.size()) {
            return BAD;
        }
        tape = new ArrayList<>(tape.subList(0, n));
        return n;
    }

    int tape(int i) {
        return i < 0 || i >= tape.size() ? NONE : tape.get(i);
    }

    private static boolean beyond(int... ps) {
        return Arrays.stream(ps).anyMatch(p -> p < 0 || p > 9);
    }

    /** 0, or why place p holds nothing of the kinds from least to most. */
    private int refusal(int p, int least, int most) {
        if (beyond(p)) {
            return BEYOND;
        }
        if (places[p] == null) {
            return NOTHING;
        }
        return places[p].kind < least || places[p].kind > most ? OTHER : 0;
    }

    private int rowRefusal(int p) {
        int refusal = refusal(p, 1, 7);
        return refusal == 0 && places[p].row == null ? OTHER : refusal;
    }

    private static boolean missing(Thing t) {
        return t.row != null && (t.lost[0] || t.lost[1]);
    }

    private String takeName() {
        boolean right = tape.size() >= 1 && tape.size() <= 24 && !tape.contains(0);
        StringBuilder text = new StringBuilder();
        tape.forEach(b -> text.append((char) b.intValue()));
        tape.clear();
        return right ? text.toString() : null;
    }

    int draft(int p) {
        if (beyond(p)) {
            return BEYOND;
        }
        places[p] = new Thing();
        places[p].kind = 6;
        return 0;
    }

    int row(int p, int n) {
        if (beyond(p)) {
            return BEYOND;
        }
        if (n < 0 || n > 4000) {
            return BAD;
        }
        places[p] = new Thing();
        places[p].kind = 7;
        places[p].row = new ArrayList<>();
        for (int i = 0; i < n; i++) {
            places[p].row.add(false);
        }
        return n;
    }

    int clear(int p) {
        int held = kind(p);
        if (held >= 0) {
            places[p] = null;
        }
        return held;
    }

    int share(int p, int q) {
        if (beyond(p, q)) {
            return BEYOND;
        }
        if (places[p] == null) {
            return NOTHING;
        }
        places[q] = places[p];
        return places[p].kind;
    }

    int kind(int p) {
        return beyond(p) ? BEYOND : places[p] == null ? 0 : places[p].kind;
    }

    int same(int p) {
        if (beyond(p)) {
            return BEYOND;
        }
        return places[p] == null ? 0 : (int) Arrays.stream(places).filter(t -> t == places[p]).count();
    }

    int put(int p, long v) {
        int refusal = refusal(p, 6, 6);
        if (refusal != 0) {
            return refusal;
        }
        String name = takeName();
        if (name == null) {
            return BAD;
        }
        if (places[p].names.size() == 100 && !places[p].names.containsKey(name)) {
            return FULL;
        }
        return places[p].names.put(name, v) == null ? 1 : 0;
    }

    int unput(int p) {
        int refusal = refusal(p, 6, 6);
        if (refusal != 0) {
            return refusal;
        }
        String name = takeName();
        if (name == null) {
            return BAD;
        }
        return places[p].names.remove(name) == null ? 0 : 1;
    }

    int seal(int p, int q, int kind) {
        if (beyond(p, q)) {
            return BEYOND;
        }
        int refusal = refusal(p, 6, 6);
        return refusal != 0 ? refusal : shelve(q, places[p].names, kind);
    }

    private int shelve(int q, Map<String, Long> names, int kind) {
        if (kind < 1 || kind > 5 || names.isEmpty()) {
            return BAD;
        }
        if (kind == 5 && names.keySet().stream().anyMatch(name -> name.length() != 8)) {
            return BAD;
        }
        places[q] = book(new TreeMap<>(names), kind);
        return names.size();
    }

    int unseal(int p, int q) {
        if (beyond(p, q)) {
            return BEYOND;
        }
        int refusal = refusal(p, 1, 5);
        if (refusal != 0) {
            return refusal;
        }
        if (missing(places[p])) {
            return MISSING;
        }
        Thing draft = new Thing();
        draft.kind = 6;
        draft.names.putAll(places[p].names);
        places[q] = draft;
        return draft.names.size();
    }

    int merge(int p, int q, int r, int what, int kind) {
        if (beyond(p, q, r)) {
            return BEYOND;
        }
        if (places[p] == null || places[q] == null) {
            return NOTHING;
        }
        Thing a = places[p];
        Thing b = places[q];
        if (a.kind > 5 || b.kind > 5) {
            return OTHER;
        }
        if (what < 0 || what > 2 || kind < 1 || kind > 5) {
            return BAD;
        }
        if (missing(a) || missing(b)) {
            return MISSING;
        }
        TreeMap<String, Long> names = new TreeMap<>();
        if (what == 0) {
            names.putAll(b.names);
        }
        names.putAll(a.names);
        if (what == 1) {
            names.keySet().retainAll(b.names.keySet());
        }
        if (what == 2) {
            names.keySet().removeAll(b.names.keySet());
        }
        return names.size() > 100 ? FULL : shelve(r, names, kind);
    }

    // ---- trees and rows

    private static Thing book(TreeMap<String, Long> names, int kind) {
        Thing book = new Thing();
        book.kind = kind;
        book.names = names;
        if (kind == 1) {
            names.keySet().forEach(name -> book.bytes += name.length());
        } else if (kind == 5) {
            split(book);
        } else {
            book.root = forked(names.keySet());
            tell(book, kind);
        }
        return book;
    }

    private static void split(Thing book) {
        int h = 0;
        while (Math.pow(2, h) <= book.names.size()) {
            h++;
        }
        book.low = book.names.size() * (64 - h);
        int[] high = new int[1 << h];
        for (String name : book.names.keySet()) {
            StringBuilder bits = new StringBuilder();
            for (char c : name.toCharArray()) {
                bits.append(Integer.toBinaryString(256 + c).substring(1));
            }
            high[Integer.parseInt(bits.substring(0, h), 2)]++;
        }
        book.row = new ArrayList<>();
        for (int many : high) {
            for (int i = 0; i < many; i++) {
                book.row.add(true);
            }
            book.row.add(false);
        }
    }

    private static Node forked(Set<String> names) {
        Node root = new Node();
        for (String name : names) {
            Node node = root;
            for (int i = 0; i < name.length(); i++) {
                Node below = node.below.computeIfAbsent(name.charAt(i), c -> new Node());
                below.text = name.substring(0, i + 1);
                node = below;
            }
            node.end = true;
        }
        return root;
    }

    /** The nodes that edges lead to: all in FORKED; else what lies on the way down to the next END or fork. */
    private static List<Node> children(Node node, int kind) {
        List<Node> found = new ArrayList<>();
        for (Node below : node.below.values()) {
            Node at = below;
            while (kind != 2 && !at.end && at.below.size() == 1) {
                at = at.below.firstEntry().getValue();
            }
            found.add(at);
        }
        return found;
    }

    private static void tell(Thing book, int kind) {
        book.row = new ArrayList<>();
        Set<String> strings = new HashSet<>();
        Queue<Node> queue = new ArrayDeque<>();
        queue.add(book.root);
        int numbered = 0;
        while (!queue.isEmpty()) {
            Node node = queue.remove();
            node.number = numbered++;
            for (Node child : children(node, kind)) {
                String string = child.text.substring(node.text.length());
                if (strings.add(string) || kind != 4) {
                    book.bytes += string.length();
                }
                node.edgeBits.add(book.row.size());
                node.edgeRanks.add(book.edges++);
                book.row.add(true);
                queue.add(child);
            }
            book.row.add(false);
        }
    }

    // ---- books

    int count(int p) {
        int refusal = refusal(p, 1, 7);
        if (refusal != 0) {
            return refusal;
        }
        return places[p].kind == 7 ? places[p].row.size() : places[p].names.size();
    }

    private List<String> names(int p) {
        return new ArrayList<>(places[p].names.keySet());
    }

    interface Question {
        int ask(TreeMap<String, Long> names, String name);
    }

    private int ask(int p, Question question) {
        int refusal = refusal(p, 1, 5);
        if (refusal != 0) {
            return refusal;
        }
        String name = takeName();
        if (name == null) {
            return BAD;
        }
        return missing(places[p]) ? MISSING : question.ask(places[p].names, name);
    }

    private static int numberOf(TreeMap<String, Long> names, String name) {
        return name == null || !names.containsKey(name) ? NONE : names.headMap(name).size();
    }

    int number(int p) {
        return ask(p, Model::numberOf);
    }

    int below(int p) {
        return ask(p, (names, name) -> names.headMap(name).size());
    }

    int next(int p) {
        return ask(p, (names, name) -> numberOf(names, names.higherKey(name)));
    }

    int prior(int p) {
        return ask(p, (names, name) -> numberOf(names, names.lowerKey(name)));
    }

    int prefix(int p, boolean last) {
        return ask(p, (names, name) -> {
            TreeSet<String> such = new TreeSet<>();
            names.keySet().stream().filter(n -> n.startsWith(name)).forEach(such::add);
            if (such.isEmpty()) {
                return -10 - names.headMap(name).size();
            }
            return numberOf(names, last ? such.last() : such.first());
        });
    }

    int longest(int p) {
        return ask(p, (names, name) -> {
            for (int length = name.length(); length > 0; length--) {
                if (names.containsKey(name.substring(0, length))) {
                    return numberOf(names, name.substring(0, length));
                }
            }
            return NONE;
        });
    }

    int name(int p, int k) {
        int refusal = refusal(p, 1, 5);
        if (refusal != 0) {
            return refusal;
        }
        if (k < 0 || k >= places[p].names.size()) {
            return BAD;
        }
        if (missing(places[p])) {
            return MISSING;
        }
        tape.clear();
        names(p).get(k).chars().forEach(tape::add);
        return tape.size();
    }

    long value(int p, int k) {
        status = refusal(p, 1, 5);
        if (status == 0 && (k < 0 || k >= places[p].names.size())) {
            status = BAD;
        }
        return status == 0 ? places[p].names.get(names(p).get(k)) : 0;
    }

    int status() {
        return status;
    }

    int common(int p, int a, int b) {
        int refusal = refusal(p, 1, 5);
        if (refusal != 0) {
            return refusal;
        }
        int n = places[p].names.size();
        if (a < 0 || a >= n || b < 0 || b >= n) {
            return BAD;
        }
        if (missing(places[p])) {
            return MISSING;
        }
        String one = names(p).get(a);
        String two = names(p).get(b);
        int same = 0;
        while (same < one.length() && two.startsWith(one.substring(0, same + 1))) {
            same++;
        }
        return same;
    }

    // ---- bits

    int rank(int p, int i) {
        int refusal = rowRefusal(p);
        if (refusal != 0) {
            return refusal;
        }
        if (i < 0 || i > places[p].row.size()) {
            return BAD;
        }
        return missing(places[p]) ? MISSING : (int) places[p].row.subList(0, i).stream().filter(b -> b).count();
    }

    int select(int p, int k) {
        int refusal = rowRefusal(p);
        if (refusal != 0) {
            return refusal;
        }
        int left = k;
        for (int i = 0; k >= 0 && i < places[p].row.size(); i++) {
            if (places[p].row.get(i) && left-- == 0) {
                return missing(places[p]) ? MISSING : i;
            }
        }
        return BAD;
    }

    int bit(int p, int i) {
        int refusal = rowRefusal(p);
        if (refusal != 0) {
            return refusal;
        }
        return i < 0 || i >= places[p].row.size() ? BAD : places[p].row.get(i) ? 1 : 0;
    }

    int flip(int p, int i, boolean one) {
        int refusal = refusal(p, 7, 7);
        if (refusal != 0) {
            return refusal;
        }
        return i < 0 || i >= places[p].row.size() ? BAD : places[p].row.set(i, one) ? 1 : 0;
    }

    int about(int p, int what) {
        int refusal = refusal(p, 1, 5);
        if (refusal != 0) {
            return refusal;
        }
        Thing book = places[p];
        int bits = book.row == null ? 0 : book.row.size();
        int tables = book.row == null ? 0 : (book.lost[0] ? 0 : bits / 512 + 1) + (book.lost[1] ? 0 : bits / 64 + 1);
        int ends = book.root == null ? 0 : ends(book.root);
        int[] told = {book.kind, bits, book.edges, book.bytes, ends, book.low, width(book), tables};
        return what < 0 || what > 7 ? BAD : told[what];
    }

    private static int ends(Node node) {
        return (node.end ? 1 : 0) + node.below.values().stream().mapToInt(Model::ends).sum();
    }

    private static int width(Thing book) {
        int width = 1;
        for (long v : book.names.values()) {
            int needed = v == (byte) v ? 1 : v == (short) v ? 2 : v == (int) v ? 4 : 8;
            width = Math.max(width, needed);
        }
        return width;
    }

    int lose(int p, int which) {
        int refusal = rowRefusal(p);
        if (refusal != 0) {
            return refusal;
        }
        if (which < 0 || which > 1) {
            return BAD;
        }
        boolean was = places[p].lost[which];
        places[p].lost[which] = true;
        return was ? 0 : 1;
    }

    int mend(int p) {
        int refusal = rowRefusal(p);
        if (refusal != 0) {
            return refusal;
        }
        int lost = (places[p].lost[0] ? 1 : 0) + (places[p].lost[1] ? 1 : 0);
        places[p].lost = new boolean[2];
        return lost;
    }

    // ---- ways down

    private List<Integer> wayOf(Thing book, String name) {
        List<Integer> numbers = new ArrayList<>();
        Node node = book.root;
        int gone = 0;
        while (gone < name.length() && node.below.containsKey(name.charAt(gone))) {
            int edge = node.below.headMap(name.charAt(gone)).size();
            numbers.add(node.edgeBits.get(edge));
            numbers.add(node.edgeRanks.get(edge));
            numbers.add((int) name.charAt(gone));
            node = node.below.get(name.charAt(gone));
            gone++;
        }
        numbers.add(-1);
        numbers.add(node.number);
        numbers.add(gone == name.length() && node.end ? 1 : 0);
        return numbers;
    }

    private int askWay(int p, boolean check) {
        int refusal = refusal(p, 2, 2);
        if (refusal != 0) {
            return refusal;
        }
        String name = takeName();
        if (name == null) {
            return BAD;
        }
        if (missing(places[p])) {
            return MISSING;
        }
        List<Integer> made = wayOf(places[p], name);
        if (check) {
            return made.equals(way) ? 1 : 0;
        }
        way = made;
        return way.get(way.size() - 1);
    }

    int witness(int p) {
        return askWay(p, false);
    }

    int check(int p) {
        return askWay(p, true);
    }

    int witnessed() {
        return way.size();
    }

    int told(int i) {
        return i < 0 || i >= way.size() ? -2 : way.get(i);
    }

    int forge(int i, int v) {
        return i < 0 || i >= way.size() ? BAD : way.set(i, v);
    }

    // ---- images

    private static List<Integer> imageOf(Thing book) {
        List<Integer> image = new ArrayList<>(List.of(book.kind, book.names.size()));
        int width = width(book);
        book.names.forEach((name, value) -> {
            image.add(name.length());
            name.chars().forEach(image::add);
            for (int i = width - 1; i >= 0; i--) {
                image.add((int) (value >> (8 * i)) & 255);
            }
        });
        image.add(width);
        image.add((256 - image.stream().mapToInt(b -> b).sum() % 256) % 256);
        return image;
    }

    int image(int p) {
        int refusal = refusal(p, 1, 5);
        if (refusal != 0) {
            return refusal;
        }
        if (missing(places[p])) {
            return MISSING;
        }
        List<Integer> image = imageOf(places[p]);
        if (image.size() > 1000) {
            return FULL;
        }
        tape = image;
        return tape.size();
    }

    /** A tape is an image just if the book that it seems to tell has this very image. */
    int load(int p) {
        if (beyond(p)) {
            return BEYOND;
        }
        List<Integer> image = tape;
        tape = new ArrayList<>();
        TreeMap<String, Long> names = new TreeMap<>();
        int end = image.size() - 2;
        int width = end < 0 ? 0 : image.get(end);
        int at = 2;
        while (at < end && at + 1 + image.get(at) + width <= end) {
            StringBuilder name = new StringBuilder();
            for (int i = 0; i < image.get(at); i++) {
                name.append((char) image.get(at + 1 + i).intValue());
            }
            at += 1 + image.get(at);
            long value = width > 0 && image.get(at) > 127 ? -1 : 0;
            for (int i = 0; i < width; i++) {
                value = value * 256 + image.get(at + i);
            }
            at += width;
            names.put(name.toString(), value);
        }
        for (String name : names.keySet()) {
            if (name.length() < 1 || name.length() > 24 || name.indexOf(0) >= 0) {
                return BAD;
            }
        }
        Thing held = places[p];
        int answer = image.isEmpty() || names.size() > 100 ? BAD : shelve(p, names, image.get(0));
        if (answer > 0 && !imageOf(places[p]).equals(image)) {
            places[p] = held;
            answer = BAD;
        }
        return answer;
    }
}
