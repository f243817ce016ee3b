/** What a WORD is and what FOLDED makes of it, by promises 5 (know), 6 (forget) and 7 (name). */
final class BoundsOfWords {
    private static final String TWENTY = "abcdefghijklmnopqrst";
    private final Bounds bounds;

    BoundsOfWords(Bounds bounds) {
        this.bounds = bounds;
    }

    void run() {
        bounds.sentence(5, "A WORD: letters A .. Z, a .. z, ' and -", this::signs);
        bounds.sentence(5, "1 to 20 signs", this::oneToTwenty);
        bounds.sentence(5, "a letter first;", this::letterFirst);
        bounds.sentence(5, "perhaps a . behind these (a 21st).", this::dotBehind);
        bounds.sentence(5, "FOLDED: its letters alone, small.", this::folded);
    }

    /** By know, by forget, alone in a NAME, and as first, middle and last of three WORDS. */
    private void word(String text, boolean right) {
        Desk desk = new Desk();
        bounds.due("forget " + text, desk.forget(0, 1, text), false);
        bounds.due("know " + text, desk.know(0, 1, text.length()), right ? 1 : -1);
        desk.clear();
        bounds.due("forget " + text, desk.forget(0, 1, text), right);
        desk.clear();
        String[] names = {text, text + " b c", "a " + text + " c", "a b " + text};
        int due = 0;
        for (String name : names) {
            bounds.due("name " + name, desk.name(0, name), right ? due : -1);
            desk.clear();
            due++;
        }
        bounds.due("count(0) after " + text, desk.count(0), 0);
        bounds.due("count(1) after " + text, desk.count(1), right ? 4 : 0);
    }

    private static boolean isLetter(int code) {
        return code >= 'A' && code <= 'Z' || code >= 'a' && code <= 'z';
    }

    private void signs() {
        for (int code = 0; code < 256; code++) {
            char sign = (char) code;
            boolean inside = isLetter(code) || sign == '\'' || sign == '-';
            if (sign != ' ') {
                word("x" + sign + "y", inside);
                word("x" + sign, inside || sign == '.');
            }
        }
    }

    private void oneToTwenty() {
        word("", false);
        for (int many = 1; many <= 20; many++) {
            word(TWENTY.substring(0, many), true);
            word("z" + "-".repeat(many - 1), true);
            word("z" + "'".repeat(many - 1), true);
        }
        word(TWENTY + "u", false);
        word("z" + "-".repeat(20), false);
        word(TWENTY + "-", false);
        word(TWENTY + TWENTY, false);
    }

    private void letterFirst() {
        for (int code = 0; code < 256; code++) {
            if (code != ' ') {
                word("" + (char) code, isLetter(code));
                word((char) code + "b", isLetter(code));
            }
        }
        word("'", false);
        word("-a", false);
    }

    private void dotBehind() {
        word(".", false);
        word("a.", true);
        word("a..", false);
        word("a.b", false);
        word(".a", false);
        word("a'.", true);
        word("a-.", true);
        word("a.-", false);
        word(TWENTY.substring(0, 19) + ".", true);
        word(TWENTY.substring(0, 19) + "..", false);
        word(TWENTY + ".", true);
        word(TWENTY + "..", false);
        word(TWENTY + "u.", false);
        Desk desk = new Desk();
        desk.shape(0, "G+;G;G;-.");
        desk.name(0, TWENTY + ". " + TWENTY + ".");
        bounds.due("as it was told", desk.callOf(0), TWENTY + ". " + TWENTY + ".");
        bounds.due("FOLDED", desk.keyOf(0), TWENTY + " " + TWENTY);
    }

    private void folded() {
        Desk desk = new Desk();
        desk.name(0, "ABCDEFGHIJKLM NOPQRSTUVWXYZ");
        desk.name(0, "A'b-C.");
        desk.name(0, "Z-------------------.");
        bounds.due("small", desk.putOf(0), "abcdefghijklm nopqrstuvwxyz");
        bounds.due("letters alone", desk.putOf(1), "abc");
        bounds.due("one letter of 20 signs", desk.putOf(2), "z");
        bounds.due("its signs", desk.look(2, 5), 1);
        desk.know(0, 1, "z");
        desk.feed("Z-------------------.");
        bounds.due("alike FOLDED", desk.know(0, 1, 21), -1);
        bounds.due("forget by it", desk.forget(0, 1, 21), true);
    }
}
