/** Promises 11 (look), 13 (sign). */
final class BoundsOfLooks {
    private final Bounds bounds;

    BoundsOfLooks(Bounds bounds) {
        this.bounds = bounds;
    }

    void run() {
        bounds.sentence(11, "Of a NAME, what 0: its LAND", this::land);
        bounds.sentence(11, "1: its WORDS", this::words);
        bounds.sentence(11, "2: its place in ORDER (from 0 on)", this::place);
        bounds.sentence(11, "3: WORDS in its KEY", this::keyWords);
        bounds.sentence(11, "4: how many signs CALL has", this::callSigns);
        bounds.sentence(11, "5: signs when PUT over.", this::putSigns);
        bounds.sentence(11, "IndexOutOfBoundsException: no such NAME.", this::noName);
        bounds.sentence(11, "NoSuchElementException: no such what.", this::noWhat);
        bounds.sentence(13, "Sign k of CALL (which 0)", this::signsOfCall);
        bounds.sentence(13, "of a NAME PUT over (which 1)", this::signsOfPut);
        bounds.sentence(13, "of its KEY with one blank between WORDS (which 2)", this::signsOfKey);
        bounds.sentence(13, "NONE if there is none such.", this::noSign);
    }

    /** NAME 0 is "Ann-e van Lee." with KEY "lee anne" and CALL "Lee.", NAME 1 "Zoe" without READING. */
    private static Desk desk() {
        Desk desk = new Desk();
        desk.shape(4, "G+P*F;FG;F;-.");
        desk.know(4, 2, "van");
        desk.name(4, "Ann-e van Lee.");
        desk.name(5, "Zoe");
        return desk;
    }

    private void land() {
        for (int land = 0; land < 6; land++) {
            Desk desk = new Desk();
            desk.name(land, "A");
            desk.name(5 - land, "A");
            bounds.due("look(0, 0)", desk.look(0, 0), land);
            bounds.due("look(1, 0)", desk.look(1, 0), 5 - land);
        }
    }

    private void words() {
        for (int many = 1; many <= 8; many++) {
            Desk desk = new Desk();
            desk.name(0, "a. b. c. d. e. f. g. h.".substring(0, 3 * many - 1));
            bounds.due("look(0, 1)", desk.look(0, 1), many);
        }
    }

    private void place() {
        Desk desk = new Desk();
        desk.name(0, "b");
        bounds.due("alone", desk.look(0, 2), 0);
        desk.shape(0, "G;G;G;-.");
        for (int i = 1; i < 30; i++) {
            desk.name(0, i % 2 == 0 ? "a" : "c");
            bounds.due("place of b", desk.look(0, 2), i / 2);
        }
        bounds.due("the first", desk.look(2, 2), 0);
        bounds.due("the last", desk.look(29, 2), 29);
    }

    private void keyWords() {
        Desk desk = desk();
        bounds.due("two", desk.look(0, 3), 2);
        bounds.due("without READING", desk.look(1, 3), 0);
        desk.shape(4, "G+P*F;T;F;-.");
        bounds.due("an empty KEY", desk.look(0, 3), 0);
        desk.shape(4, "G+P*F;PGF;F;-.");
        bounds.due("all three", desk.look(0, 3), 3);
        desk.name(4, "a b c d e f g h");
        bounds.due("eight", desk.look(2, 3), 8);
    }

    private void callSigns() {
        Desk desk = desk();
        bounds.due("a . counts", desk.look(0, 4), 4);
        bounds.due("without READING", desk.look(1, 4), 0);
        desk.shape(4, "G+P*F;T;T;-.");
        bounds.due("an empty CALL", desk.look(0, 4), 0);
        desk.shape(4, "G+P*F;T;FG;-.");
        bounds.due("a blank counts", desk.look(0, 4), 10);
        desk.name(4, "Abcdefghijklmnopqrst. ".repeat(8).trim());
        desk.shape(4, "G+;T;G;-.");
        bounds.due("the longest", desk.look(2, 4), 175);
    }

    private void putSigns() {
        Desk desk = desk();
        bounds.due("letters and blanks", desk.look(0, 5), 12);
        bounds.due("without READING", desk.look(1, 5), 3);
        desk.table('e', "");
        bounds.due("less", desk.look(0, 5), 9);
        desk.table('e', "eee");
        bounds.due("more", desk.look(0, 5), 18);
        desk.name(4, "eeeeeeeeeeeeeeeeeeee. ".repeat(8).trim());
        bounds.due("the longest", desk.look(2, 5), 487);
        desk.table('e', "");
        bounds.due("blanks alone", desk.look(2, 5), 7);
        desk.name(4, "e");
        bounds.due("nothing", desk.look(3, 5), 0);
    }

    private void noName() {
        for (int what = -1; what <= 6; what++) {
            int asked = what;
            bounds.due("no NAMES, what " + what, new Desk().look(0, what), Desk.NO_NAME);
            for (int name : new int[] {-1, 6}) {
                bounds.refused("look(" + name + ", " + what + ")", Desk.NO_NAME, "Ann", desk -> desk.look(name, asked));
            }
        }
        for (int name : new int[] {29, 30, Bounds.LEAST, Bounds.MOST}) {
            bounds.refused("look(" + name + ", 0)", Desk.NO_NAME, "Ann", desk -> desk.look(name, 0));
            bounds.due("and no such what", desk().look(name, Bounds.MOST), Desk.NO_NAME);
        }
        Desk desk = desk();
        bounds.due("look(1, 0)", desk.look(1, 0), 5);
        bounds.due("look(2, 0)", desk.look(2, 0), Desk.NO_NAME);
        for (int i = 2; i < 30; i++) {
            desk.name(3, "A");
        }
        bounds.due("look(29, 0)", desk.look(29, 0), 3);
        bounds.due("look(30, 0)", desk.look(30, 0), Desk.NO_NAME);
    }

    private void noWhat() {
        for (int what : new int[] {-1, 6, 7, Bounds.LEAST, Bounds.MOST}) {
            for (int name : new int[] {0, 5}) {
                bounds.refused("look(" + name + ", " + what + ")", Desk.NO_WHAT, "Ann", desk -> desk.look(name, what));
            }
        }
        for (int what = 0; what < 6; what++) {
            bounds.due("look(0, " + what + ")", desk().look(0, what), new int[] {4, 3, 0, 2, 4, 12}[what]);
        }
    }

    private void signsAre(Desk desk, int name, int which, String due) {
        for (int k = 0; k < due.length(); k++) {
            bounds.due("sign(" + name + ", " + which + ", " + k + ")", desk.sign(name, which, k), due.charAt(k));
        }
        bounds.due("behind the last, which " + which, desk.sign(name, which, due.length()), -1);
        bounds.due("ahead of the first, which " + which, desk.sign(name, which, -1), -1);
    }

    private void signsOfCall() {
        Desk desk = desk();
        signsAre(desk, 0, 0, "Lee.");
        signsAre(desk, 1, 0, "");
        desk.shape(4, "G+P*F;F;PGF;-.");
        signsAre(desk, 0, 0, "van Ann-e Lee.");
        desk.shape(4, "G+P*F;F;T;-.");
        signsAre(desk, 0, 0, "");
        desk.shape(4, "G+;F;G;-.");
        String longest = "aBcdefghijklmnopqr'-. ".repeat(8).trim();
        desk.name(4, longest);
        signsAre(desk, 2, 0, longest);
    }

    private void signsOfPut() {
        Desk desk = desk();
        signsAre(desk, 0, 1, "anne van lee");
        signsAre(desk, 1, 1, "zoe");
        desk.table('e', "");
        signsAre(desk, 0, 1, "ann van l");
        desk.table('e', "xyz");
        signsAre(desk, 0, 1, "annxyz van lxyzxyz");
        desk.table('n', "e");
        signsAre(desk, 0, 1, "aeexyz vae lxyzxyz");
        Desk full = desk();
        full.name(4, "eeeeeeeeeeeeeeeeeeee. ".repeat(8).trim());
        full.table('e', "xyz");
        bounds.due("the last of the longest", full.sign(2, 1, 486), 'z');
        bounds.due("behind it", full.sign(2, 1, 487), -1);
        bounds.due("a blank in it", full.sign(2, 1, 60), ' ');
    }

    private void signsOfKey() {
        Desk desk = desk();
        signsAre(desk, 0, 2, "lee anne");
        signsAre(desk, 1, 2, "");
        desk.table('e', "xyz");
        signsAre(desk, 0, 2, "lee anne");
        desk.shape(4, "G+P*F;PFG;F;-.");
        signsAre(desk, 0, 2, "van lee anne");
        desk.shape(4, "G+P*F;T;F;-.");
        signsAre(desk, 0, 2, "");
        desk.shape(4, "G+;G;F;-.");
        desk.name(4, "Abcdefghijklmnopqrst. ".repeat(8).trim());
        signsAre(desk, 2, 2, "abcdefghijklmnopqrst ".repeat(8).trim());
    }

    private void noSign() {
        for (int name : new int[] {-1, 6, 30, Bounds.LEAST, Bounds.MOST}) {
            for (int i = 0; i < 3; i++) {
                int which = i;
                bounds.refused("sign(" + name + ", " + which + ", 0)", -1, "Ann", desk -> desk.sign(name, which, 0));
            }
        }
        for (int which : new int[] {-1, 3, Bounds.LEAST, Bounds.MOST}) {
            bounds.refused("sign(0, " + which + ", 0)", -1, "Ann", desk -> desk.sign(0, which, 0));
        }
        for (int k : new int[] {-1, 16, 488, 1000, Bounds.LEAST, Bounds.MOST}) {
            for (int i = 0; i < 3; i++) {
                int which = i;
                bounds.refused("sign(0, " + which + ", " + k + ")", -1, "Ann", desk -> desk.sign(0, which, k));
            }
        }
        bounds.refused("CALL without READING", -1, "Ann", desk -> desk.sign(4, 0, 0));
        bounds.refused("KEY without READING", -1, "Ann", desk -> desk.sign(4, 2, 0));
        // A longer line that was asked for ahead of it must not show behind a shorter one's end.
        Desk desk = desk();
        bounds.due("CALL's last", desk.sign(0, 0, 3), '.');
        bounds.due("KEY's last", desk.sign(0, 2, 7), 'e');
        bounds.due("behind CALL's last", desk.sign(0, 0, 4), -1);
        bounds.due("no CALL", desk.sign(1, 0, 0), -1);
    }
}
