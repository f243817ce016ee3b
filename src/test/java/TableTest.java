/** Promises 16 (table), 17 (fallen). */
public final class TableTest {
    private static final Check check = new Check("TableTest");

    public static void main(String[] args) {
        puts();
        refuses();
        fallen();
        fallenToNothing();
        longest();
        check.end();
    }

    private static void puts() {
        NameDesk desk = new NameDesk();
        Check.name(desk, 0, "Za-z Ab'a.");
        check.due("one for one", Check.table(desk, 'a', "o"), true);
        check.due("PUT", Check.line(desk, 0, 1), "zoz obo");
        check.due("the TAPE is empty", desk.shape(0, 1), -2);
        check.due("three for one", Check.table(desk, 'z', "zhe"), true);
        check.due("PUT", Check.line(desk, 0, 1), "zheozhe obo");
        check.due("none for one", Check.table(desk, 'b', ""), true);
        check.due("PUT", Check.line(desk, 0, 1), "zheozhe oo");
        check.due("not put twice over", Check.table(desk, 'o', "u"), true);
        check.due("PUT", Check.line(desk, 0, 1), "zheozhe oo");
        check.due("two for one", Check.table(desk, 'z', "ts"), true);
        check.due("PUT", Check.line(desk, 0, 1), "tsots oo");
        check.due("signs when PUT over", Check.look(desk, 0, 5), 8);
        Check.name(desk, 0, "Zo");
        check.due("a later NAME", Check.line(desk, 1, 1), "tsu");
    }

    private static void refuses() {
        NameDesk desk = new NameDesk();
        Check.name(desk, 0, "Az");
        Check.feed(desk, "abcdAb");
        check.due("letter -1", desk.table(-1, 1), false);
        check.due("letter 26", desk.table(26, 1), false);
        check.due("n 4", desk.table(0, 4), false);
        check.due("n -1", desk.table(0, -1), false);
        check.due("n 21", desk.table(0, 21), false);
        check.due("the TAPE stayed", desk.table(25, 3), true);
        check.due("PUT", Check.line(desk, 0, 1), "aabc");
        check.due("n more than the TAPE has", desk.table(0, 1), false);
        String[] none = {"A", "a.", "ab ", "a'", "-", "{", "`", "" + (char) 225};
        for (String text : none) {
            check.due(text, Check.table(desk, 'a', text), false);
            check.due("the TAPE stayed", desk.table(25, 0), true);
        }
        check.due("PUT", Check.line(desk, 0, 1), "a");
    }

    private static void fallen() {
        NameDesk desk = new NameDesk();
        Check.name(desk, 0, "Ian Roe");
        Check.name(desk, 1, "Jan Roe");
        Check.name(desk, 2, "I'AN roe.");
        Check.name(desk, 0, "Yan Roe");
        Check.name(desk, 0, "Ian Roe Roe");
        check.due("none yet", desk.fallen(), 0);
        Check.table(desk, 'j', "i");
        check.due("two pairs", desk.fallen(), 2);
        Check.table(desk, 'y', "i");
        check.due("five pairs", desk.fallen(), 5);
        Check.table(desk, 'j', "j");
        check.due("two pairs again", desk.fallen(), 2);
        Check.name(desk, 0, "Yan ROE");
        check.due("one more NAME", desk.fallen(), 4);
    }

    private static void fallenToNothing() {
        NameDesk desk = new NameDesk();
        Check.name(desk, 0, "a b");
        Check.name(desk, 0, "ab");
        Check.name(desk, 0, "b a");
        Check.name(desk, 0, "ba");
        check.due("none yet", desk.fallen(), 0);
        Check.table(desk, 'a', "");
        check.due("a is nothing", desk.fallen(), 1);
        check.due("the blank stays", Check.line(desk, 0, 1), " b");
        check.due("the blank stays", Check.line(desk, 2, 1), "b ");
        Check.table(desk, 'b', "");
        check.due("all is nothing", desk.fallen(), 2);
        check.due("one blank", Check.line(desk, 0, 1), " ");
        check.due("no signs", Check.look(desk, 1, 5), 0);
        check.due("no sign", desk.sign(1, 1, 0), -1);
    }

    private static void longest() {
        NameDesk desk = new NameDesk();
        String word = "aaaaaaaaaaaaaaaaaaaa";
        Check.name(desk, 0, (word + " ").repeat(8).trim());
        Check.table(desk, 'a', "xyz");
        check.due("signs", Check.look(desk, 0, 5), 487);
        check.due("the last", desk.sign(0, 1, 486), 'z');
        check.due("behind the last", desk.sign(0, 1, 487), -1);
    }
}
