import java.util.function.Consumer;

/** Promises 5 (know), 6 (forget), and what the BOOK is. */
final class BoundsOfBook {
    private static final String[] NO_WORDS = {"", "'a", "-a", ".", "a b", "a ", " a", "a.b", "a1", "abcdefghijklmnopqrstu"};
    private final Bounds bounds;

    BoundsOfBook(Bounds bounds) {
        this.bounds = bounds;
    }

    void run() {
        bounds.sentence(5, "BOOK, at most 80 entries", this::eighty);
        bounds.sentence(5, "a LAND, a KIND (not M, I), a WORD", this::kinds);
        bounds.sentence(5, "(FOLDED is what counts;", this::foldedCounts);
        bounds.sentence(5, "each LAND, KIND and FOLDED once).", this::eachOnce);
        bounds.sentence(5, "The TAPE's first n bytes, a WORD, come to the BOOK", this::knowFirstBytes);
        bounds.sentence(5, "(the TAPE is empty then)", this::knowEmpties);
        bounds.sentence(5, "how many entries", this::knowHowMany);
        bounds.sentence(5, "NONE, and the TAPE stays: they are none", this::knowNoWord);
        bounds.sentence(5, "no such LAND, KIND", this::knowNoLandOrKind);
        bounds.sentence(5, "it is there", this::knowThere);
        bounds.sentence(5, "or there are 80.", this::knowFull);
        bounds.sentence(6, "An entry is gone from the BOOK", this::forgetGone);
        bounds.sentence(6, "(by the WORD in the TAPE's first n bytes;", this::forgetFirstBytes);
        bounds.sentence(6, "the TAPE is empty then): true", this::forgetEmpties);
        bounds.sentence(6, "false, and the TAPE stays: there is none such.", this::forgetNone);
    }

    /** The i-th of 676 WORDS that are all unlike FOLDED. */
    static String word(int i) {
        return "w" + (char) ('a' + i / 26) + (char) ('a' + i % 26);
    }

    private static Consumer<Desk> full(int entries, String tape) {
        return desk -> {
            desk.shape(0, "T?G+P*F;FG;TF;-.");
            desk.name(0, "Waa Wag Zoe");
            for (int i = 0; i < entries; i++) {
                desk.know(i % 6, i % 5, word(i));
            }
            desk.feed(tape);
        };
    }

    private void eighty() {
        Desk desk = new Desk();
        full(79, "more").accept(desk);
        bounds.due("count(0)", desk.count(0), 79);
        bounds.due("the 80th", desk.know(0, 4, 4), 80);
        desk.feed("again");
        bounds.due("an 81st", desk.know(0, 4, 5), -1);
        bounds.due("count(0)", desk.count(0), 80);
        desk.clear();
        bounds.due("one gone", desk.forget(0, 0, word(0)), true);
        bounds.due("room again", desk.know(0, 4, "again"), 80);
        bounds.due("full again", desk.know(0, 4, "third"), -1);
        desk.clear();
        for (int i = 1; i < 80; i++) {
            bounds.due("forget " + i, desk.forget(i % 6, i % 5, i == 79 ? "more" : word(i)), i != 79);
        }
        desk.clear();
        bounds.due("forget the 80th", desk.forget(0, 4, "more"), true);
        bounds.due("forget the last", desk.forget(0, 4, "again"), true);
        bounds.due("count(0)", desk.count(0), 0);
    }

    private void kinds() {
        for (int land = 0; land < 6; land++) {
            for (int kind = -1; kind <= 7; kind++) {
                Desk desk = new Desk();
                boolean right = kind >= 0 && kind <= 4;
                bounds.due("KIND " + kind, desk.know(land, kind, "Ann"), right ? 1 : -1);
                desk.clear();
                bounds.due("forget KIND " + kind, desk.forget(land, kind, "Ann"), right);
            }
        }
    }

    private void foldedCounts() {
        Desk desk = new Desk();
        desk.shape(0, "T;G;G;-.");
        desk.know(0, 0, "O'Ne-il.");
        desk.name(0, "oneil");
        desk.name(0, "ONEIL.");
        desk.name(0, "o-n-e-i-l");
        desk.name(0, "oneill");
        desk.name(0, "onei");
        for (int name = 0; name < 5; name++) {
            bounds.due("NAME " + name, desk.all(name), name < 3 ? "T:0" : "");
        }
        for (String same : new String[] {"oneil", "ONEIL", "o'n'e'i'l.", "O--neil"}) {
            bounds.due("know " + same, desk.know(0, 0, same), -1);
            desk.clear();
        }
        bounds.due("one letter more", desk.know(0, 0, "oneill"), 2);
        bounds.due("one letter less", desk.know(0, 0, "onei"), 3);
        bounds.due("another letter", desk.know(0, 0, "onail"), 4);
        bounds.due("forget by FOLDED", desk.forget(0, 0, "O-NEIL"), true);
        bounds.due("its READING is gone", desk.all(0), "");
        bounds.due("the others stay", desk.all(3) + desk.all(4), "T:0T:0");
    }

    private void eachOnce() {
        Desk desk = new Desk();
        int due = 0;
        for (int land = 0; land < 6; land++) {
            for (int kind = 0; kind < 5; kind++) {
                due++;
                bounds.due("once", desk.know(land, kind, "Ann"), due);
                bounds.due("twice", desk.know(land, kind, "a'nn"), -1);
                desk.clear();
                bounds.due("count(0)", desk.count(0), due);
            }
        }
        bounds.due("forget one", desk.forget(3, 2, "Ann"), true);
        bounds.due("no second one", desk.forget(3, 2, "Ann"), false);
        bounds.due("known anew", desk.know(3, 2, 3), 30);
    }

    private void knowFirstBytes() {
        Desk desk = new Desk();
        desk.shape(0, "T;G;G;-.");
        desk.name(0, "Ann");
        desk.name(0, "Anna");
        desk.name(0, "A");
        desk.feed("Annabel");
        bounds.due("the first three", desk.know(0, 0, 3), 1);
        bounds.due("Ann", desk.all(0), "T:0");
        bounds.due("Anna", desk.all(1), "");
        desk.feed("Annabel");
        bounds.due("the first alone", desk.know(0, 0, 1), 2);
        bounds.due("A", desk.all(2), "T:0");
        desk.feed("abcdefghijklmnopqrst.");
        bounds.due("all 21", desk.know(0, 0, 21), 3);
        desk.feed("abcdefghijklmnopqrst.");
        bounds.due("20 are alike FOLDED", desk.know(0, 0, 20), -1);
        bounds.due("19 are not", desk.know(0, 0, 19), 4);
    }

    private void knowEmpties() {
        Desk desk = new Desk();
        desk.feed("Annabel");
        desk.feed("Annabel");
        bounds.due("know", desk.know(0, 0, 3), 1);
        bounds.due("no byte left", desk.know(0, 0, 1), -1);
        bounds.due("no byte left", desk.shape(0, 1), -2);
        bounds.due("feed", desk.feed("A"), 20);
    }

    private void knowHowMany() {
        Desk desk = new Desk();
        for (int i = 0; i < 80; i++) {
            bounds.due("know", desk.know(5 - i % 6, 4 - i % 5, word(i)), i + 1);
        }
        desk.forget(5, 4, word(0));
        desk.forget(4, 3, word(1));
        bounds.due("know after two are gone", desk.know(0, 0, "ann"), 79);
    }

    private void knowNoWord() {
        for (String text : NO_WORDS) {
            bounds.refused("know " + text, -1, text, desk -> desk.know(0, 1, text.length()));
        }
        for (int n : new int[] {-1, 0, 4, 20, Bounds.LEAST, Bounds.MOST}) {
            bounds.refused("know, n " + n, -1, "Bob", desk -> desk.know(0, 1, n));
        }
        bounds.refused("know, n 21 of 20", -1, "abcdefghijklmnopqrst", desk -> desk.know(0, 1, 21));
        Desk desk = new Desk();
        desk.feed("abcdefghijklmnopqrst");
        bounds.due("n 21 of 20", desk.know(0, 1, 21), -1);
        bounds.due("n 20 of 20", desk.know(0, 1, 20), 1);
    }

    private void knowNoLandOrKind() {
        for (int other : new int[] {-1, 6, Bounds.LEAST, Bounds.MOST}) {
            bounds.refused("know, LAND " + other, -1, "Bob", desk -> desk.know(other, 1, 3));
        }
        for (int other : new int[] {-1, 5, 6, 7, Bounds.LEAST, Bounds.MOST}) {
            bounds.refused("know, KIND " + other, -1, "Bob", desk -> desk.know(0, other, 3));
        }
        Desk desk = new Desk();
        desk.feed("Bob");
        bounds.due("LAND 6", desk.know(6, 4, 3), -1);
        bounds.due("KIND 5", desk.know(5, 5, 3), -1);
        bounds.due("LAND 5, KIND 4", desk.know(5, 4, 3), 1);
        bounds.due("LAND 0, KIND 0", desk.know(0, 0, "Bob"), 2);
    }

    private void knowThere() {
        bounds.refused("know what is there", -1, "Ann", desk -> desk.know(0, 1, 3));
        bounds.refused("know what is there FOLDED", -1, "a-N'n.", desk -> desk.know(0, 1, 6));
        Desk desk = new Desk();
        Scene.with("Ann").accept(desk);
        bounds.due("there", desk.know(0, 1, 3), -1);
        bounds.due("not in this LAND", desk.know(1, 1, 3), 6);
        desk.feed("Ann");
        bounds.due("not as this KIND", desk.know(0, 4, 3), 7);
        desk.feed("Ann");
        bounds.due("not with less", desk.know(0, 1, 2), 8);
    }

    private void knowFull() {
        bounds.refused("know an 81st", -1, full(80, "more"), desk -> desk.know(0, 1, 4));
        bounds.refused("know what is there", -1, full(80, "waa"), desk -> desk.know(0, 0, 3));
        Desk desk = new Desk();
        full(80, "more").accept(desk);
        bounds.due("an 81st", desk.know(0, 1, 4), -1);
        bounds.due("it did not come", desk.forget(0, 1, 4), false);
        Desk less = new Desk();
        full(79, "more").accept(less);
        bounds.due("an 80th", less.know(0, 1, 4), 80);
        bounds.due("it came", less.forget(0, 1, "more"), true);
    }

    private void forgetGone() {
        Desk desk = new Desk();
        desk.shape(0, "T?G?P?Q?F?;G;G;-.");
        desk.name(0, "Ann");
        for (int kind = 0; kind < 5; kind++) {
            desk.know(0, kind, "Ann");
        }
        bounds.due("all KINDS", desk.all(0), "T:0 G:0 P:0 Q:0 F:0");
        bounds.due("forget P", desk.forget(0, 2, "Ann"), true);
        bounds.due("P is gone", desk.all(0), "T:0 G:0 Q:0 F:0");
        bounds.due("forget F", desk.forget(0, 4, "Ann"), true);
        bounds.due("F is gone", desk.all(0), "T:0 G:0 Q:0 F:5");
        bounds.due("forget T", desk.forget(0, 0, "Ann"), true);
        bounds.due("forget Q", desk.forget(0, 3, "Ann"), true);
        bounds.due("G is left", desk.all(0), "G:0 F:2");
        bounds.due("forget G", desk.forget(0, 1, "Ann"), true);
        bounds.due("none is left", desk.all(0), "G:2 F:2");
        bounds.due("count(0)", desk.count(0), 0);
    }

    private void forgetFirstBytes() {
        Desk desk = new Desk();
        desk.know(0, 0, "Ann");
        desk.know(0, 0, "Anna");
        desk.feed("ANNABEL");
        bounds.due("the first two", desk.forget(0, 0, 2), false);
        bounds.due("the first five", desk.forget(0, 0, 5), false);
        bounds.due("the first three", desk.forget(0, 0, 3), true);
        desk.feed("A-N'NA.BEL");
        bounds.due("Ann is gone", desk.forget(0, 0, 5), false);
        bounds.due("the first seven", desk.forget(0, 0, 7), true);
        bounds.due("count(0)", desk.count(0), 0);
    }

    private void forgetEmpties() {
        Desk desk = new Desk();
        desk.know(0, 0, "Ann");
        desk.know(0, 1, "A");
        desk.feed("Annabel");
        bounds.due("forget", desk.forget(0, 0, 3), true);
        bounds.due("no byte left", desk.forget(0, 1, 1), false);
        bounds.due("no byte left", desk.shape(0, 1), -2);
        bounds.due("feed", desk.feed("A"), 20);
    }

    private void forgetNone() {
        for (int other : new int[] {-1, 1, 5, 6, Bounds.LEAST, Bounds.MOST}) {
            bounds.refused("forget, LAND " + other, 0, "Ann", desk -> desk.forget(other, 1, 3) ? 1 : 0);
        }
        for (int other : new int[] {-1, 0, 2, 3, 4, 5, 6, 7, Bounds.LEAST, Bounds.MOST}) {
            bounds.refused("forget, KIND " + other, 0, "Ann", desk -> desk.forget(0, other, 3) ? 1 : 0);
        }
        for (int n : new int[] {-1, 0, 1, 2, 4, 20, 21, Bounds.LEAST, Bounds.MOST}) {
            bounds.refused("forget, n " + n, 0, "Ann", desk -> desk.forget(0, 1, n) ? 1 : 0);
        }
        for (String text : NO_WORDS) {
            bounds.refused("forget " + text, 0, text, desk -> desk.forget(0, 1, text.length()) ? 1 : 0);
        }
        bounds.refused("forget in a full BOOK", 0, full(80, "more"), desk -> desk.forget(0, 0, 4) ? 1 : 0);
        Desk desk = new Desk();
        Scene.with("Ann").accept(desk);
        bounds.due("it is there", desk.forget(0, 1, 3), true);
        bounds.due("it is not there now", desk.forget(0, 1, "Ann"), false);
        bounds.due("count(0)", desk.count(0), 4);
    }
}
