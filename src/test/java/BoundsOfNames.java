import java.util.function.Consumer;

/** Promise 7 (name), and what a NAME is. */
final class BoundsOfNames {
    private static final String TWENTY = "abcdefghijklmnopqrst";
    private final Bounds bounds;

    BoundsOfNames(Bounds bounds) {
        this.bounds = bounds;
    }

    void run() {
        bounds.sentence(7, "NAMES, at most 30", this::thirty);
        bounds.sentence(7, "of a LAND (with or without a SHAPE)", this::withOrWithout);
        bounds.sentence(7, "1 to 8 WORDS", this::oneToEight);
        bounds.sentence(7, "with one blank between.", this::oneBlank);
        bounds.sentence(7, "The TAPE's first n bytes are a NAME", this::firstBytes);
        bounds.sentence(7, "(the TAPE is empty then)", this::emptyThen);
        bounds.sentence(7, "its number", this::itsNumber);
        bounds.sentence(7, "NONE, and the TAPE stays: they are none", this::noName);
        bounds.sentence(7, "no such LAND", this::noLand);
        bounds.sentence(7, "or there are 30.", this::full);
    }

    private static Consumer<Desk> full(int names, String tape) {
        return desk -> {
            desk.shape(0, "T?G+P*F;FG;TF;-.");
            for (int i = 0; i < names; i++) {
                desk.name(i % 6, "Ann " + BoundsOfBook.word(29 - i));
            }
            desk.feed(tape);
        };
    }

    private void thirty() {
        Desk desk = new Desk();
        full(29, "Bob Lee").accept(desk);
        bounds.due("count(1)", desk.count(1), 29);
        bounds.due("the 30th", desk.name(5, 7), 29);
        desk.feed("Bob Lee");
        bounds.due("a 31st", desk.name(5, 7), -1);
        bounds.due("count(1)", desk.count(1), 30);
        bounds.due("the first", desk.putOf(0), "ann wbd");
        bounds.due("the 30th", desk.putOf(29), "bob lee");
        bounds.due("its LAND", desk.look(29, 0), 5);
        bounds.due("behind it", desk.look(30, 0), Desk.NO_NAME);
        bounds.due("order(29)", desk.order(29), 29);
        bounds.due("order(30)", desk.order(30), -1);
    }

    private void withOrWithout() {
        for (int land = 0; land < 6; land++) {
            Desk desk = new Desk();
            bounds.due("without", desk.name(land, "Ann Lee"), 0);
            desk.shape(land, "GF;G;G;-.");
            bounds.due("with", desk.name(land, "Ann Lee"), 1);
            bounds.due("with one that does not fit it", desk.name(land, "Ann"), 2);
            bounds.due("LANDS", desk.look(0, 0) + desk.look(1, 0) + desk.look(2, 0), 3 * land);
            bounds.due("READINGS", desk.all(0) + "/" + desk.all(1) + "/" + desk.all(2), "GF:4/GF:4/");
        }
    }

    private void oneToEight() {
        for (int many = 1; many <= 8; many++) {
            Desk desk = new Desk();
            String text = "a b c d e f g h".substring(0, 2 * many - 1);
            bounds.due(many + " WORDS", desk.name(0, text), 0);
            bounds.due("look(0, 1)", desk.look(0, 1), many);
            bounds.due("its signs", desk.putOf(0), text);
            String longest = (TWENTY + ". ").repeat(many).trim();
            bounds.due(many + " WORDS of 21 signs", desk.name(1, longest), 1);
            bounds.due("look(1, 1)", desk.look(1, 1), many);
            bounds.due("look(1, 5)", desk.look(1, 5), 21 * many - 1);
        }
        Desk desk = new Desk();
        bounds.due("none", desk.name(0, ""), -1);
        desk.clear();
        bounds.due("nine", desk.name(0, "a b c d e f g h i"), -1);
        desk.clear();
        bounds.due("nine of 21 signs", desk.name(0, (TWENTY + ". ").repeat(9).trim()), -1);
        bounds.due("eight of them", desk.name(0, 8 * 22 - 1), 0);
    }

    private void oneBlank() {
        String[] none = {" ", "  ", " a", "a ", "a  b", "a b ", " a b", "a   b", "a\tb", "a\nb", "a\0b", "a_b", "a,b",
            "a b c d e f g h ", "a b c d e f g  h"};
        for (String text : none) {
            Desk desk = new Desk();
            bounds.due("name \"" + text + "\"", desk.name(0, text), -1);
            bounds.due("count(1)", desk.count(1), 0);
        }
        Desk desk = new Desk();
        bounds.due("one blank", desk.name(0, "a b"), 0);
        bounds.due("no blank", desk.name(0, "ab"), 1);
        bounds.due("WORDS", desk.look(0, 1) * 10 + desk.look(1, 1), 21);
    }

    private void firstBytes() {
        int[] due = {-1, 0, 0, 0, -1, 0, 0, 0, 0, 0, 0, -1};
        for (int n = 0; n < due.length; n++) {
            Desk desk = new Desk();
            desk.feed("Ann Lee-b.x");
            bounds.due("name(0, " + n + ")", desk.name(0, n), due[n]);
            bounds.due("count(1)", desk.count(1), due[n] + 1);
        }
        Desk desk = new Desk();
        desk.feed("Ann Lee-b.x");
        bounds.due("name(0, 11)", desk.name(0, 11), -1);
        bounds.due("name(0, 5)", desk.name(0, 5), 0);
        bounds.due("its signs", desk.putOf(0), "ann l");
    }

    private void emptyThen() {
        Desk desk = new Desk();
        desk.feed("Ann Lee");
        desk.feed("Ann Lee");
        bounds.due("name", desk.name(0, 3), 0);
        bounds.due("no byte left", desk.name(0, 1), -1);
        bounds.due("no byte left", desk.shape(0, 1), -2);
        bounds.due("feed", desk.feed("A"), 20);
        bounds.due("the NAME stays", desk.putOf(0), "ann");
    }

    private void itsNumber() {
        Desk desk = new Desk();
        for (int i = 0; i < 30; i++) {
            bounds.due("name", desk.name(i % 6, BoundsOfBook.word(i)), i);
            bounds.due("one that is none", desk.name(i % 6, "a  b"), -1);
            desk.clear();
        }
        for (int i = 0; i < 30; i++) {
            bounds.due("LAND of " + i, desk.look(i, 0), i % 6);
            bounds.due("last sign of " + i, desk.sign(i, 1, 2), BoundsOfBook.word(i).charAt(2));
        }
    }

    private void noName() {
        String[] none = {"", " ", "Ann  Lee", " Ann", "Ann ", "a b c d e f g h i", "Ann 'b", "Ann .", TWENTY + "u",
            "a " + TWENTY + "u", "a b.c"};
        for (String text : none) {
            bounds.refused("name " + text, -1, text, desk -> desk.name(0, text.length()));
        }
        for (int n : new int[] {-1, 0, 4, 8, 20, 21, Bounds.LEAST, Bounds.MOST}) {
            bounds.refused("name, n " + n, -1, "Ann Lee", desk -> desk.name(0, n));
        }
        bounds.refused("name, n 21 of 20", -1, TWENTY, desk -> desk.name(0, 21));
        Desk desk = new Desk();
        desk.feed(TWENTY);
        bounds.due("n 21 of 20", desk.name(0, 21), -1);
        bounds.due("n 20 of 20", desk.name(0, 20), 0);
    }

    private void noLand() {
        for (int land : new int[] {-1, 6, Bounds.LEAST, Bounds.MOST}) {
            bounds.refused("name, LAND " + land, -1, "Ann Lee", desk -> desk.name(land, 7));
        }
        Desk desk = new Desk();
        desk.feed("Ann Lee");
        bounds.due("LAND 6", desk.name(6, 7), -1);
        bounds.due("LAND -1", desk.name(-1, 7), -1);
        bounds.due("LAND 5", desk.name(5, 7), 0);
        bounds.due("LAND 0", desk.name(0, "Ann Lee"), 1);
    }

    private void full() {
        bounds.refused("a 31st", -1, full(30, "Bob Lee"), desk -> desk.name(0, 7));
        bounds.refused("a 31st that is none", -1, full(30, "Bob  Lee"), desk -> desk.name(0, 8));
        Desk desk = new Desk();
        full(30, "Bob").accept(desk);
        bounds.due("a 31st", desk.name(0, 3), -1);
        bounds.due("the same bytes", desk.know(0, 1, 3), 1);
    }
}
