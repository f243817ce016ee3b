/** Promises 16 (table), 17 (fallen), and what PUT over is. */
final class BoundsOfTable {
    private final Bounds bounds;

    BoundsOfTable(Bounds bounds) {
        this.bounds = bounds;
    }

    void run() {
        bounds.sentence(16, "TABLE: each letter a .. z becomes none to three small letters", this::noneToThree);
        bounds.sentence(16, "(itself at first)", this::itselfAtFirst);
        bounds.sentence(16, "PUT over, a NAME is: FOLDED WORDS, letter by letter, with one blank between.", this::putOver);
        bounds.sentence(16, "What a letter (0 .. 25) becomes by the TABLE", this::eachLetter);
        bounds.sentence(16, "the TAPE's first n bytes (0 .. 3 small letters", this::firstBytes);
        bounds.sentence(16, "the TAPE is empty then): true", this::emptyThen);
        bounds.sentence(16, "false, and the TAPE stays, for others.", this::refuses);
        bounds.sentence(17, "How many pairs of NAMES", this::pairs);
        bounds.sentence(17, "that aren't alike FOLDED (WORD by WORD)", this::notAlikeFolded);
        bounds.sentence(17, "are alike PUT over.", this::alikePutOver);
    }

    private static Desk desk(String... names) {
        Desk desk = new Desk();
        for (String name : names) {
            desk.name(0, name);
        }
        return desk;
    }

    private void noneToThree() {
        String[] become = {"", "b", "bc", "bcd"};
        for (String letters : become) {
            Desk desk = desk("Xax");
            bounds.due("a becomes " + letters, desk.table('a', letters), true);
            bounds.due("PUT over", desk.putOf(0), "x" + letters + "x");
        }
        Desk desk = desk("Xax");
        bounds.due("four", desk.table('a', "bcde"), false);
        bounds.due("PUT over", desk.putOf(0), "xax");
        desk.clear();
        for (String letters : new String[] {"bcd", "b", "", "bc", "a"}) {
            bounds.due("then " + letters, desk.table('a', letters), true);
            bounds.due("PUT over", desk.putOf(0), "x" + letters + "x");
        }
    }

    private void itselfAtFirst() {
        Desk desk = desk("abcdefghijklm nopqrstuvwxyz");
        bounds.due("at first", desk.putOf(0), "abcdefghijklm nopqrstuvwxyz");
        desk.table('m', "qq");
        bounds.due("the others stay", desk.putOf(0), "abcdefghijklqq nopqrstuvwxyz");
        desk.table('m', "m");
        bounds.due("itself again", desk.putOf(0), "abcdefghijklm nopqrstuvwxyz");
    }

    private void putOver() {
        Desk desk = desk("A'b-A. Ba", "a a a a a a a a", "aaaaaaaaaaaaaaaaaaaa ".repeat(8).trim());
        desk.table('a', "b");
        desk.table('b', "a");
        bounds.due("each letter once", desk.putOf(0), "bab ab");
        desk.table('a', "");
        bounds.due("a WORD less", desk.putOf(0), "a a");
        desk.table('b', "");
        bounds.due("a blank alone", desk.putOf(0), " ");
        bounds.due("seven blanks", desk.putOf(1), "       ");
        bounds.due("signs", desk.look(2, 5), 7);
        desk.table('a', "xyz");
        bounds.due("three for one", desk.putOf(1), "xyz xyz xyz xyz xyz xyz xyz xyz");
        bounds.due("the longest", desk.look(2, 5), 487);
        desk.name(3, "Ba");
        bounds.due("a NAME told later", desk.putOf(3), "xyz");
        desk.table('a', "a");
        bounds.due("and changed", desk.putOf(3), "a");
    }

    private void eachLetter() {
        for (int letter = 0; letter < 26; letter++) {
            Desk desk = desk("abcdefghijklm nopqrstuvwxyz", "ABCDEFGHIJKLM NOPQRSTUVWXYZ");
            desk.feed("qx");
            bounds.due("table(" + letter + ", 2)", desk.table(letter, 2), true);
            String small = "" + (char) ('a' + letter);
            String due = "abcdefghijklm nopqrstuvwxyz".replace(small, "qx");
            bounds.due("PUT over", desk.putOf(0), due);
            bounds.due("PUT over", desk.putOf(1), due);
        }
        for (int letter : new int[] {-1, 26, Bounds.LEAST, Bounds.MOST}) {
            Desk desk = new Desk();
            desk.feed("qx");
            bounds.due("table(" + letter + ", 2)", desk.table(letter, 2), false);
        }
    }

    private void firstBytes() {
        for (int n = 0; n <= 5; n++) {
            Desk desk = desk("a");
            desk.feed("bcdef");
            bounds.due("table(0, " + n + ")", desk.table(0, n), n <= 3);
            bounds.due("PUT over", desk.putOf(0), n <= 3 ? "bcd".substring(0, n) : "a");
        }
        for (int code = 0; code < 256; code++) {
            char sign = (char) code;
            boolean small = sign >= 'a' && sign <= 'z';
            String[] texts = {"" + sign, "b" + sign, "bc" + sign, sign + "bc", "b" + sign + "c"};
            for (String text : texts) {
                Desk desk = desk("a");
                bounds.due("table " + text, desk.table('a', text), small);
                bounds.due("PUT over", desk.putOf(0), small ? text : "a");
            }
            Desk desk = desk("a");
            desk.feed("b" + sign);
            bounds.due("the first alone of b" + sign, desk.table(0, 1), true);
            bounds.due("PUT over", desk.putOf(0), "b");
        }
    }

    private void emptyThen() {
        for (int n = 0; n <= 3; n++) {
            Desk desk = new Desk();
            desk.feed("bcdef");
            desk.feed("bcdef");
            bounds.due("table(0, " + n + ")", desk.table(0, n), true);
            bounds.due("no byte left", desk.table(0, 1), false);
            bounds.due("no byte left", desk.shape(0, 1), -2);
            bounds.due("feed", desk.feed("b"), 20);
        }
        bounds.due("none of none", new Desk().table(0, 0), true);
    }

    private void refuses() {
        for (int letter : new int[] {-1, 26, Bounds.LEAST, Bounds.MOST}) {
            for (int i = 0; i <= 3; i++) {
                int n = i;
                bounds.refused("table(" + letter + ", " + n + ")", 0, "bcd", desk -> desk.table(letter, n) ? 1 : 0);
            }
        }
        for (int n : new int[] {-1, 4, 5, 20, 21, Bounds.LEAST, Bounds.MOST}) {
            bounds.refused("table(0, " + n + ")", 0, "bcdef", desk -> desk.table(0, n) ? 1 : 0);
        }
        for (String text : new String[] {"B", "b ", "b.", "bc-", "'", "bB", "{", "`", "b\0"}) {
            bounds.refused("table " + text, 0, text, desk -> desk.table(4, text.length()) ? 1 : 0);
        }
        bounds.refused("n 1 of none", 0, Scene::build, desk -> desk.table(0, 1) ? 1 : 0);
        Desk desk = desk("az");
        desk.feed("bcd");
        bounds.due("letter 26", desk.table(26, 3), false);
        bounds.due("letter 25", desk.table(25, 3), true);
        desk.feed("x");
        bounds.due("letter -1", desk.table(-1, 1), false);
        bounds.due("letter 0", desk.table(0, 1), true);
        bounds.due("PUT over", desk.putOf(0), "xbcd");
    }

    private void pairs() {
        bounds.due("no NAMES", new Desk().fallen(), 0);
        Desk one = desk("a");
        one.table('a', "");
        bounds.due("one NAME", one.fallen(), 0);
        Desk desk = new Desk();
        for (char letter = 'a'; letter <= 'z'; letter++) {
            desk.table(letter, "");
        }
        for (int i = 0; i < 30; i++) {
            bounds.due("pairs of " + i, desk.fallen(), i * (i - 1) / 2);
            desk.name(i % 6, BoundsOfBook.word(i));
        }
        bounds.due("pairs of 30", desk.fallen(), 435);
        desk.table('w', "w");
        bounds.due("w twice in the 23rd alone", desk.fallen(), 406);
        desk.table('b', "b");
        // Of the other 29, b is in the second, which has it once, and in the last four, of which one has it twice.
        bounds.due("b in five", desk.fallen(), 24 * 23 / 2 + 4 * 3 / 2);
    }

    private void notAlikeFolded() {
        Desk desk = desk("A'n-n", "ann.", "ANN", "Anna");
        bounds.due("alike FOLDED", desk.fallen(), 0);
        desk.table('a', "");
        bounds.due("Anna falls with each", desk.fallen(), 3);
        Desk same = desk("a b", "A. B", "a b");
        same.table('a', "");
        same.table('b', "");
        bounds.due("all alike FOLDED", same.fallen(), 0);
        Desk last = desk("a b c d e f g h", "a b c d e f g i", "a b c d e f g H");
        last.table('i', "h");
        bounds.due("unlike in the last WORD", last.fallen(), 2);
        Desk lands = new Desk();
        lands.name(0, "ab");
        lands.name(5, "ab");
        lands.name(5, "cb");
        bounds.due("of two LANDS, alike", lands.fallen(), 0);
        lands.table('c', "a");
        bounds.due("of two LANDS", lands.fallen(), 2);
    }

    private void alikePutOver() {
        Desk desk = desk("Ian", "Jan", "Yan");
        bounds.due("none", desk.fallen(), 0);
        desk.table('j', "i");
        bounds.due("one pair", desk.fallen(), 1);
        desk.table('y', "i");
        bounds.due("three pairs", desk.fallen(), 3);
        desk.table('j', "ii");
        bounds.due("one pair again", desk.fallen(), 1);
        Desk parted = desk("ab c", "a bc", "abc");
        bounds.due("a blank counts", parted.fallen(), 0);
        parted.table('b', "");
        bounds.due("with b gone", parted.fallen(), 1);
        parted.table('c', "");
        bounds.due("with c gone", parted.fallen(), 1);
        parted.table('a', "");
        bounds.due("all is gone", parted.fallen(), 1);
        Desk longer = desk("shch", "q", "sch");
        longer.table('q', "sh");
        bounds.due("a beginning", longer.fallen(), 0);
        longer.table('h', "");
        bounds.due("sh, h gone", longer.fallen(), 1);
    }
}
