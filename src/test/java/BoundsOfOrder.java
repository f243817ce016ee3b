/** Promise 12 (order), and what KEY, ORDER and CALL are. */
final class BoundsOfOrder {
    private static final String TWENTY = "abcdefghijklmnopqrst";
    private final Bounds bounds;

    BoundsOfOrder(Bounds bounds) {
        this.bounds = bounds;
    }

    void run() {
        bounds.sentence(12, "KEY of a NAME: by the letters of SORT, in order, all its WORDS that READING has as this KIND, "
                + "FOLDED.", this::keys);
        bounds.sentence(12, "ORDER of NAMES: by KEYS: WORD by WORD (letter by letter", this::wordByWord);
        bounds.sentence(12, "a WORD that ends first is less)", this::shorterWord);
        bounds.sentence(12, "a KEY that ends first is less;", this::shorterKey);
        bounds.sentence(12, "of like ones,", this::likeOnes);
        bounds.sentence(12, "and of those without READING (behind all others), by numbers.", this::withoutReading);
        bounds.sentence(13, "CALL: by its letters all WORDS of these KINDS as they were told, with one blank between.",
                this::calls);
        bounds.sentence(12, "The k-th NAME in ORDER", this::kthName);
        bounds.sentence(12, "NONE if there is none such.", this::noneSuch);
    }

    private static Desk allKinds(String sortAndCall) {
        Desk desk = Desk.of("T?G*P?Q?F*M?I?;" + sortAndCall + ";son.", "Dr. A'nn Bo Von De Le-e Karlson X.");
        desk.know(0, 0, "dr");
        desk.know(0, 1, "ann");
        desk.know(0, 1, "bo");
        desk.know(0, 2, "von");
        desk.know(0, 3, "de");
        desk.know(0, 4, "lee");
        desk.know(0, 1, "karl");
        return desk;
    }

    private void keys() {
        bounds.due("its READING", allKinds("F;F").row(0, 0), "TGGPQFMI");
        bounds.due("all KINDS", allKinds("TGPQFMI;F").keyOf(0), "dr ann bo von de lee karlson x");
        bounds.due("all KINDS from the last on", allKinds("IMFQPGT;F").keyOf(0), "x karlson lee de von ann bo dr");
        bounds.due("WORDS", allKinds("IMFQPGT;F").look(0, 3), 8);
        bounds.due("QFG", allKinds("QFG;F").keyOf(0), "de lee ann bo");
        bounds.due("one KIND", allKinds("T;F").keyOf(0), "dr");
        Desk none = Desk.of("G+;F;F;-.", "aa bb");
        bounds.due("no WORD of the KIND", none.keyOf(0), "");
        bounds.due("WORDS in it", none.look(0, 3), 0);
        Desk longest = Desk.of("G+;G;G;-.", (TWENTY + ". ").repeat(8).trim());
        bounds.due("the longest", longest.keyOf(0), (TWENTY + " ").repeat(8).trim());
        bounds.due("WORDS in it", longest.look(0, 3), 8);
    }

    private void ordered(String due, String... names) {
        Desk desk = Desk.of("G+;G;G;-.", names);
        bounds.due(String.join(", ", names), desk.order(), due);
        String[] places = due.split(" ");
        for (int k = 0; k < places.length; k++) {
            bounds.due("place", desk.look(Integer.parseInt(places[k]), 2), k);
        }
    }

    private void wordByWord() {
        ordered("1 0", "bb", "ab");
        ordered("1 0", "ab", "aa");
        ordered("1 0", "ab", "AA");
        ordered("0 1", "AA", "ab");
        ordered("1 0", "z", "a");
        ordered("1 0", "aa bb", "aa ba");
        ordered("1 0", "ab aa", "aa bb");
        ordered("0 1", "a'a", "A-b");
        ordered("1 0", TWENTY, TWENTY.substring(0, 19) + "a");
        ordered("1 0", "a a a a a a a b", "a a a a a a a a");
        ordered("3 2 1 0", "d", "c", "b", "a");
    }

    private void shorterWord() {
        ordered("1 0", "ab", "a");
        ordered("0 1", "a", "ab");
        ordered("1 0", "ab aa", "a zz");
        ordered("1 0", "aa bb", "aa b");
        ordered("1 0", "ab", "a'-.");
        ordered("1 0", TWENTY, TWENTY.substring(0, 19));
        ordered("1 0", "a a a a a a a ab", "a a a a a a a a");
        refusedAhead("ab", "a", "1 0");
        refusedAhead("a", "ab", "0 1");
        refusedAhead("ab", "a'-.", "1 0");
        refusedAhead("a'-.", "ab", "0 1");
    }

    /** Longer WORDS of NAMES that were refused must not show behind the shorter ones of those that came. */
    private void refusedAhead(String one, String other, String due) {
        for (String refused : new String[] {"azz  ", "aaa  "}) {
            Desk desk = Desk.of("G+;G;G;-.");
            for (String name : new String[] {one, other}) {
                bounds.due("name " + refused, desk.name(0, refused), -1);
                desk.clear();
                desk.name(0, name);
            }
            bounds.due(one + ", " + other + " behind " + refused, desk.order(), due);
        }
    }

    private void shorterKey() {
        ordered("1 0", "aa aa", "aa");
        ordered("0 1", "aa", "aa aa");
        ordered("1 0", "ab", "aa bb");
        ordered("1 0", "aab", "aa b");
        ordered("1 0", "a a a a a a a a", "a a a a a a a");
        Desk desk = Desk.of("G*F*;F;F;-.", "bb", "aa", "cc");
        desk.know(0, 4, "bb");
        desk.know(0, 4, "cc");
        bounds.due("an empty KEY", desk.order(), "1 0 2");
        bounds.due("WORDS in it", desk.look(1, 3), 0);
        becomesShorter(0, "0 1");
        becomesShorter(1, "1 0");
    }

    /** What a longer KEY had must not show behind the shorter one that the NAME has now. */
    private void becomesShorter(int number, String due) {
        Desk desk = new Desk();
        desk.shape(0, "GF;GF;G;-.");
        desk.shape(1, "GF;GF;G;-.");
        for (int name = 0; name < 2; name++) {
            desk.name(name == number ? 0 : 1, name == number ? "aa zz" : "aa bb");
        }
        bounds.due("with both WORDS", desk.order(), number == 0 ? "1 0" : "0 1");
        desk.shape(0, "GF;G;G;-.");
        bounds.due("with the first", desk.order(), due);
    }

    private void likeOnes() {
        ordered("0 1", "aa", "aa");
        ordered("0 1 2", "A-a", "aa.", "AA");
        ordered("3 0 2 1", "bb", "cc", "bb", "aa");
        ordered("1 3 0 2 4", "bb", "aa", "bb", "aa", "bb");
        Desk desk = Desk.of("G*F*;F;F;-.", "aa bb", "cc bb", "bb");
        desk.know(0, 4, "bb");
        bounds.due("by KEYS alone", desk.order(), "0 1 2");
        Desk lands = new Desk();
        lands.shape(5, "G+;G;G;-.");
        lands.shape(0, "F+;F;F;-.");
        lands.name(5, "bb");
        lands.name(0, "bb");
        lands.name(5, "bb");
        lands.name(0, "aa");
        bounds.due("of two LANDS", lands.order(), "3 0 1 2");
    }

    private void withoutReading() {
        Desk desk = new Desk();
        desk.name(2, "aa");
        desk.name(0, "zz");
        desk.name(1, "ab");
        desk.name(0, "zy");
        desk.name(2, "aa");
        bounds.due("none has one", desk.order(), "0 1 2 3 4");
        desk.shape(0, "G+;F;G;-.");
        bounds.due("an empty KEY is ahead", desk.order(), "1 3 0 2 4");
        desk.shape(0, "G+;G;G;-.");
        bounds.due("LAND 0 has a SHAPE", desk.order(), "3 1 0 2 4");
        desk.shape(1, "GG;G;G;-.");
        bounds.due("one that does not fit", desk.order(), "3 1 0 2 4");
        desk.shape(2, "T;T;G;-.");
        bounds.due("one that can't be read", desk.order(), "3 1 0 2 4");
        desk.know(2, 0, "aa");
        bounds.due("it can now", desk.order(), "0 4 3 1 2");
        desk.forget(2, 0, "aa");
        bounds.due("and no longer", desk.order(), "3 1 0 2 4");
        for (int name = 0; name < 5; name++) {
            bounds.due("place of " + name, desk.look(name, 2), new int[] {2, 1, 3, 0, 4}[name]);
        }
    }

    private void calls() {
        bounds.due("all KINDS", allKinds("F;TGPQFMI").callOf(0), "Dr. A'nn Bo Von De Le-e Karlson X.");
        bounds.due("from the last on", allKinds("F;IMFQPGT").callOf(0), "X. Karlson Le-e De Von A'nn Bo Dr.");
        bounds.due("TF", allKinds("F;TF").callOf(0), "Dr. Le-e");
        bounds.due("one KIND", allKinds("F;G").callOf(0), "A'nn Bo");
        bounds.due("no WORD of the KIND", Desk.of("G+;G;F;-.", "aa bb").callOf(0), "");
        bounds.due("a KIND without WORDS ahead", Desk.of("G+;G;TG;-.", "aa bb").callOf(0), "aa bb");
        bounds.due("a KIND without WORDS behind", Desk.of("G+;G;GT;-.", "aa bb").callOf(0), "aa bb");
        bounds.due("without READING", Desk.of("G;G;G;-.", "aa bb").callOf(0), "");
        String longest = (TWENTY + ". ").repeat(8).trim();
        Desk desk = Desk.of("G+;G;G;-.", longest);
        bounds.due("the longest", desk.callOf(0), longest);
        bounds.due("its signs", desk.look(0, 4), 175);
    }

    private void kthName() {
        Desk desk = new Desk();
        desk.shape(0, "G+;G;G;-.");
        for (int i = 0; i < 30; i++) {
            desk.name(0, BoundsOfBook.word(29 - i));
            bounds.due("the newest is first", desk.order(0), i);
            bounds.due("the oldest is last", desk.order(i), 0);
            bounds.due("behind it", desk.order(i + 1), -1);
        }
        for (int k = 0; k < 30; k++) {
            bounds.due("order(" + k + ")", desk.order(k), 29 - k);
            bounds.due("place of " + k, desk.look(k, 2), 29 - k);
        }
    }

    private void noneSuch() {
        bounds.due("no NAMES", new Desk().order(0), -1);
        for (int k : new int[] {-1, 6, 29, 30, Bounds.LEAST, Bounds.MOST}) {
            bounds.refused("order(" + k + ")", -1, "Ann", desk -> desk.order(k));
        }
        Desk desk = new Desk();
        Scene.build(desk);
        bounds.due("order(5)", desk.order(5), 5);
        bounds.due("order(6)", desk.order(6), -1);
        bounds.due("order(0)", desk.order(0) >= 0, true);
        bounds.due("order(-1)", desk.order(-1), -1);
    }
}
