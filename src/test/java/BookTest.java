/** Promises 5 (know), 6 (forget), 7 (name) and what a WORD is. */
public final class BookTest {
    private static final Check check = new Check("BookTest");
    private static final String TWENTY = "abcdefghijklmnopqrst";

    public static void main(String[] args) {
        words();
        knowRefuses();
        knowByFolded();
        eightyEntries();
        forgets();
        namesOfWords();
        nameRefuses();
        thirtyNames();
        check.end();
    }

    private static void word(String text, boolean right) {
        NameDesk desk = new NameDesk();
        check.due("know " + text, Check.know(desk, 0, 1, text), right ? 1 : -1);
        Check.clear(desk);
        check.due("name " + text, Check.name(desk, 0, text), right ? 0 : -1);
    }

    private static void words() {
        word("A", true);
        word("z", true);
        word("Z.", true);
        word("a'-", true);
        word("O'Neil-Smith.", true);
        word(TWENTY, true);
        word(TWENTY + ".", true);
        word("A-------------------", true);
        word(TWENTY + "u", false);
        word(TWENTY + "u.", false);
        word(TWENTY + "..", false);
        word("", false);
        word(".", false);
        word("'a", false);
        word("-a", false);
        word("a.b", false);
        word("a..", false);
        word(".a", false);
        word("a1", false);
        word("a@", false);
        word("a[", false);
        word("a`", false);
        word("a{", false);
        word("a" + (char) 225, false);
        word("a\0", false);
    }

    private static void knowRefuses() {
        NameDesk desk = new NameDesk();
        Check.feed(desk, "Ann");
        check.due("land -1", desk.know(-1, 1, 3), -1);
        check.due("land 6", desk.know(6, 1, 3), -1);
        check.due("kind -1", desk.know(0, -1, 3), -1);
        check.due("kind M", desk.know(0, 5, 3), -1);
        check.due("kind I", desk.know(0, 6, 3), -1);
        check.due("kind 7", desk.know(0, 7, 3), -1);
        check.due("n -1", desk.know(0, 1, -1), -1);
        check.due("n 0", desk.know(0, 1, 0), -1);
        check.due("n 21", desk.know(0, 1, 21), -1);
        check.due("no WORD", desk.know(0, 1, 4), -1);
        check.due("the TAPE stayed", desk.know(0, 1, 3), 1);
        check.due("the TAPE is empty", desk.know(0, 2, 3), -1);
        check.due("count(0)", desk.count(0), 1);
    }

    private static void knowByFolded() {
        NameDesk desk = new NameDesk();
        check.due("first", Check.know(desk, 0, 1, "O'Neil"), 1);
        Check.feed(desk, "O-n'EIL.");
        check.due("alike FOLDED", desk.know(0, 1, 8), -1);
        check.due("another kind", desk.know(0, 4, 8), 2);
        Check.feed(desk, "O-n'EIL.");
        check.due("another land", desk.know(1, 1, 8), 3);
        Check.feed(desk, "onei");
        check.due("a beginning of it", desk.know(0, 1, 4), 4);
        check.due("all kinds of entries", Check.know(desk, 5, 0, "x"), 5);
        check.due("P", Check.know(desk, 5, 2, "x"), 6);
        check.due("Q", Check.know(desk, 5, 3, "x"), 7);
    }

    private static void eightyEntries() {
        NameDesk desk = new NameDesk();
        for (int i = 0; i < 80; i++) {
            check.due("know", Check.know(desk, i % 6, 1, "w" + (char) ('a' + i / 26) + (char) ('a' + i % 26)), i + 1);
        }
        Check.feed(desk, "more");
        check.due("an 81st", desk.know(0, 1, 4), -1);
        check.due("the TAPE stayed", desk.forget(0, 1, 4), false);
        Check.clear(desk);
        check.due("forget the first", Check.forget(desk, 0, 1, "waa"), true);
        check.due("count(0)", desk.count(0), 79);
        check.due("room again", Check.know(desk, 0, 1, "more"), 80);
        for (int i = 1; i < 80; i++) {
            String word = "w" + (char) ('a' + i / 26) + (char) ('a' + i % 26);
            check.due("forget " + word, Check.forget(desk, i % 6, 1, word), true);
        }
        check.due("forget more", Check.forget(desk, 0, 1, "more"), true);
        check.due("count(0)", desk.count(0), 0);
    }

    private static void forgets() {
        NameDesk desk = new NameDesk();
        Check.know(desk, 3, 4, "Van-Dam");
        Check.feed(desk, "v'andam.");
        check.due("another kind", desk.forget(3, 1, 8), false);
        check.due("another land", desk.forget(2, 4, 8), false);
        check.due("no such land", desk.forget(6, 4, 8), false);
        check.due("no such kind", desk.forget(3, 5, 8), false);
        check.due("less of the word", desk.forget(3, 4, 6), false);
        check.due("no WORD", desk.forget(3, 4, 9), false);
        check.due("n 0", desk.forget(3, 4, 0), false);
        check.due("n -1", desk.forget(3, 4, -1), false);
        check.due("n 21", desk.forget(3, 4, 21), false);
        check.due("it is there", desk.forget(3, 4, 8), true);
        check.due("the TAPE is empty", desk.shape(0, 1), -2);
        check.due("gone", Check.forget(desk, 3, 4, "vandam"), false);
        Check.clear(desk);
        check.due("known anew", Check.know(desk, 3, 4, "vandam"), 1);
    }

    private static void namesOfWords() {
        NameDesk desk = new NameDesk();
        check.due("a name", Check.name(desk, 4, "Dr. Ann-Lee O'Hara"), 0);
        check.due("its land", desk.look(0, 0), 4);
        check.due("its words", desk.look(0, 1), 3);
        check.due("the TAPE is empty", desk.shape(0, 1), -2);
        String longest = (TWENTY + ". ").repeat(8).trim();
        check.due("the longest", Check.name(desk, 5, longest), 1);
        check.due("its words", desk.look(1, 1), 8);
        check.due("its signs", Check.line(desk, 1, 1), (TWENTY + " ").repeat(8).trim());
    }

    private static void nameRefuses() {
        NameDesk desk = new NameDesk();
        String nine = "a b c d e f g h i";
        Check.feed(desk, nine);
        check.due("nine words", desk.name(0, 17), -1);
        check.due("a blank behind", desk.name(0, 16), -1);
        check.due("land -1", desk.name(-1, 15), -1);
        check.due("land 6", desk.name(6, 15), -1);
        check.due("n -1", desk.name(0, -1), -1);
        check.due("n 0", desk.name(0, 0), -1);
        check.due("n 21", desk.name(0, 21), -1);
        check.due("the TAPE stayed", desk.name(0, 15), 0);
        String[] none = {" a", "a  b", "a b.c", "a 'b", "a\tb", "a b ", TWENTY + "u b", "a " + TWENTY + "u", "a ."};
        for (String text : none) {
            check.due(text, Check.name(desk, 0, text), -1);
            Check.clear(desk);
        }
        check.due("count(1)", desk.count(1), 1);
        check.due("the first stayed", Check.line(desk, 0, 1), "a b c d e f g h");
    }

    private static void thirtyNames() {
        NameDesk desk = new NameDesk();
        for (int i = 0; i < 30; i++) {
            check.due("name", Check.name(desk, i % 6, "A"), i);
        }
        Check.feed(desk, "A");
        check.due("a 31st", desk.name(0, 1), -1);
        check.due("the TAPE stayed", desk.know(0, 1, 1), 1);
        check.due("count(1)", desk.count(1), 30);
    }
}
