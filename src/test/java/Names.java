/** Names that several tests need. */
final class Names {
    /** 24 bytes, as many as a name may have. */
    static final String LONGEST = "abcdefghijklmnopqrstuvwx";

    private Names() {
    }

    /** 100 names of 24 bytes that have no beginning in common: no FORKED book has more nodes. */
    static String[] ofMostNodes() {
        String[] names = new String[100];
        for (int i = 0; i < names.length; i++) {
            names[i] = String.valueOf((char) (100 + i)).repeat(24);
        }
        return names;
    }

    /** Names of 8 bytes, 100 at most; name i has the seven highest bits i. */
    static String[] ofEightBytes(int n) {
        String[] names = new String[n];
        for (int i = 0; i < n; i++) {
            names[i] = (char) (1 + 2 * i) + "1234567";
        }
        return names;
    }
}
