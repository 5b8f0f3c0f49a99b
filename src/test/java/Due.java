/** What the tests share: answers beside those that are due, and texts fed to and read from the tape. */
final class Due {
    private final String test;
    private int asked = 0;
    private int wrong = 0;

    Due(String test) {
        this.test = test;
    }

    void is(String call, long got, long want) {
        asked++;
        if (got != want) {
            wrong++;
            System.out.println(test + ": " + call + " answered " + got + ", due is " + want);
        }
    }

    void isText(String what, String got, String want) {
        asked++;
        if (!got.equals(want)) {
            wrong++;
            System.out.println(test + ": " + what + " is '" + got + "', due is '" + want + "'");
        }
    }

    int wrongSoFar() {
        return wrong;
    }

    void end() {
        System.out.println(test + ": " + asked + " answers, " + wrong + " of them not as due");
        if (wrong != 0 || asked == 0) {
            System.exit(1);
        }
    }

    /** The tape becomes the text's characters, one byte each. */
    static BitAlmanac tape(BitAlmanac x, String text) {
        x.cut(0);
        for (int i = 0; i < text.length(); i++) {
            x.feed(text.charAt(i), 1);
        }
        return x;
    }

    static String read(BitAlmanac x) {
        StringBuilder text = new StringBuilder();
        for (int i = 0; x.tape(i) >= 0; i++) {
            text.append((char) x.tape(i));
        }
        return text.toString();
    }

    /** A draft at the place with the names; the value of each is how many came before it. */
    static void draft(BitAlmanac x, int p, String... names) {
        x.draft(p);
        for (int i = 0; i < names.length; i++) {
            tape(x, names[i]).put(p, i);
        }
    }

    /** A book of a kind at the place, by way of place 9. */
    static void book(BitAlmanac x, int p, int kind, String... names) {
        draft(x, 9, names);
        x.seal(9, p, kind);
        x.clear(9);
    }

    static String bits(BitAlmanac x, int p) {
        StringBuilder text = new StringBuilder();
        for (int i = 0; x.bit(p, i) >= 0; i++) {
            text.append(x.bit(p, i));
        }
        return text.toString();
    }

    static String witness(BitAlmanac x) {
        StringBuilder text = new StringBuilder();
        for (int i = 0; i < x.witnessed(); i++) {
            text.append(i == 0 ? "" : " ").append(x.told(i));
        }
        return text.toString();
    }
}
