/** Promise 3 (shape), and what a SHAPE is. */
final class BoundsOfShape {
    private static final String KINDS = "TGPQFMI";
    private final Bounds bounds;

    BoundsOfShape(Bounds bounds) {
        this.bounds = bounds;
    }

    void run() {
        bounds.sentence(3, "LANDS 0 .. 5.", this::lands);
        bounds.sentence(3, "SHAPE of a LAND:", this::ofOneLand);
        bounds.sentence(3, "a TEXT without blanks:", this::withoutBlanks);
        bounds.sentence(3, "SLOT { SLOT } ';' SORT ';' CALL ';' ENDING '.'.", this::partsInOrder);
        bounds.sentence(3, "SLOT: a KIND's letter, perhaps ?", this::slotSigns);
        bounds.sentence(3, "perhaps ? (none or one word)", this::noneOrOne);
        bounds.sentence(3, "* (any)", this::any);
        bounds.sentence(3, "+ (one at least) behind it", this::oneAtLeast);
        bounds.sentence(3, "else one word;", this::oneWord);
        bounds.sentence(3, "at most 8.", this::eightSlots);
        bounds.sentence(3, "SORT, CALL: one to seven letters of KINDS", this::oneToSeven);
        bounds.sentence(3, "none twice.", this::noneTwice);
        bounds.sentence(3, "ENDING: one to six small letters", this::oneToSix);
        bounds.sentence(3, "or - (none).", this::noEnding);
        bounds.sentence(3, "The TAPE's first n bytes", this::firstBytes);
        bounds.sentence(3, "(it is empty then)", this::emptyThen);
        bounds.sentence(3, "are a LAND's SHAPE from now on", this::fromNowOn);
        bounds.sentence(3, "how many SLOTS", this::howMany);
        bounds.sentence(3, "NONE with a FAULT", this::withFault);
        bounds.sentence(3, "-2, and the TAPE stays: no such LAND", this::noSuchLand);
        bounds.sentence(3, "-2, and the TAPE stays: no such LAND, n.", this::noSuchLength);
    }

    private void right(String text, int slots) {
        Desk desk = new Desk();
        bounds.due(text, desk.shape(0, text), slots);
        bounds.due(text + " fault(0)", desk.fault(0), 0);
        bounds.due(text + " fault(1)", desk.fault(1), -1);
        bounds.due(text + " count(2)", desk.count(2), 1);
    }

    private void wrong(String text, int number, int place) {
        BoundsOfFaults.wrong(bounds, text, number, place);
    }

    private void lands() {
        for (int land : new int[] {0, 1, 2, 3, 4, 5}) {
            Desk desk = new Desk();
            bounds.due("LAND " + land, desk.shape(land, "G;G;G;-."), 1);
            bounds.due("a NAME of it", desk.name(land, "A"), 0);
            bounds.due("its READING", desk.all(0), "G:2");
        }
        for (int land : new int[] {-1, 6, Bounds.LEAST, Bounds.MOST}) {
            bounds.due("LAND " + land, new Desk().shape(land, "G;G;G;-."), -2);
        }
    }

    private void ofOneLand() {
        Desk desk = new Desk();
        for (int land = 0; land < 6; land++) {
            desk.name(land, "A");
        }
        for (int land = 0; land < 6; land++) {
            desk.shape(land, land % 2 == 0 ? "G;G;G;-." : "F;F;F;-.");
            for (int other = 0; other < 6; other++) {
                String due = other > land ? "" : other % 2 == 0 ? "G:2" : "F:2";
                bounds.due("LAND " + other + " with SHAPES to " + land, desk.all(other), due);
            }
        }
    }

    private void withoutBlanks() {
        String whole = "T?G+F;FG;TF;son.";
        right(whole, 3);
        for (int place = 0; place <= whole.length(); place++) {
            wrong(whole.substring(0, place) + " " + whole.substring(place), 1, place);
        }
    }

    private void partsInOrder() {
        right("G;F;T;a.", 1);
        wrong("G;F;a.", 1, 4);
        wrong("G;F;T.", 1, 5);
        wrong("G;F;T;P;a.", 1, 6);
        wrong("G;F;T;a", 1, 7);
        wrong("G;F;T;a;", 1, 7);
        wrong("G;F;T;a..", 1, 8);
        wrong("G;F;T;a.;", 1, 8);
        wrong(".", 1, 0);
        wrong(";;;.", 1, 0);
        wrong("G.", 1, 1);
        wrong("G;;T;a.", 1, 2);
        wrong("G;F;;a.", 1, 4);
        wrong("G;F;T;.", 1, 6);
    }

    private void slotSigns() {
        for (int code = 0; code < 256; code++) {
            char sign = (char) code;
            boolean letter = KINDS.indexOf(sign) >= 0;
            if (letter) {
                right(sign + ";G;G;-.", 1);
                right("G" + sign + ";G;G;-.", 2);
                right("G?" + sign + ";G;G;-.", 2);
            } else {
                wrong(sign + ";G;G;-.", 1, 0);
            }
            if ("?*+".indexOf(sign) >= 0) {
                right("G" + sign + ";G;G;-.", 1);
                right("G" + sign + "F" + sign + ";G;G;-.", 2);
                wrong("G?" + sign + ";G;G;-.", 1, 2);
                wrong("G*" + sign + ";G;G;-.", 1, 2);
                wrong("G+" + sign + ";G;G;-.", 1, 2);
            } else if (!letter && sign != ';') {
                wrong("G" + sign + ";G;G;-.", 1, 1);
                wrong("G?" + sign + ";G;G;-.", 1, 2);
            }
        }
    }

    /** Whether NAMES of so many WORDS, from 1 to 8, have a READING. */
    private void words(String slots, int least, int most) {
        Desk desk = new Desk();
        desk.shape(0, slots + ";G;G;-.");
        for (int many = 1; many <= 8; many++) {
            desk.name(0, "aa bb cc dd ee ff gg hh".substring(0, 3 * many - 1));
            boolean fits = many >= least && many <= most;
            bounds.due(slots + " of " + many, desk.readings(many - 1, 40), fits ? 1 : 0);
        }
    }

    private void noneOrOne() {
        words("G?", 1, 1);
        words("G?F", 1, 2);
        words("GF?", 1, 2);
        words("G?G?G?", 1, 3);
        words("G?G?G?G?G?G?G?G?", 1, 8);
        words("G?G?G?G?G?G?G?", 1, 7);
    }

    private void any() {
        words("G*", 1, 8);
        words("G*F", 1, 8);
        words("GF*", 1, 8);
        words("GG*F", 2, 8);
        words("GGGGGGG*F", 7, 8);
    }

    private void oneAtLeast() {
        words("G+", 1, 8);
        words("G+F", 2, 8);
        words("GF+", 2, 8);
        words("G+G+G+", 3, 8);
        words("G+G+G+G+G+G+G+G+", 8, 8);
    }

    private void oneWord() {
        words("G", 1, 1);
        words("GF", 2, 2);
        words("GGGGGGG", 7, 7);
        words("GGGGGGGG", 8, 8);
    }

    private void eightSlots() {
        String[] marks = {"", "?", "*", "+"};
        for (String mark : marks) {
            right(("G" + mark).repeat(7) + ";G;G;-.", 7);
            right(("G" + mark).repeat(8) + ";G;G;-.", 8);
            wrong(("G" + mark).repeat(9) + ";G;G;-.", 2, 8 + 8 * mark.length());
        }
        right("T?G*P+QF?M*I+T;G;G;-.", 8);
        wrong("T?G*P+QF?M*I+TG;G;G;-.", 2, 14);
    }

    /** The text as SORT, then as CALL: how many places of it are right ahead of the FAULT. */
    private void lettersWrong(String letters, int number, int place) {
        wrong("G;" + letters + ";G;-.", number, 2 + place);
        wrong("G;G;" + letters + ";-.", number, 4 + place);
    }

    private void lettersRight(String letters) {
        right("G;" + letters + ";G;-.", 1);
        right("G;G;" + letters + ";-.", 1);
    }

    private void oneToSeven() {
        lettersWrong("", 1, 0);
        for (int many = 1; many <= 7; many++) {
            lettersRight(KINDS.substring(0, many));
            lettersRight(new StringBuilder(KINDS).reverse().substring(0, many));
        }
        for (char letter : KINDS.toCharArray()) {
            lettersRight("" + letter);
            lettersWrong(KINDS + letter, 3, 7);
        }
        for (int code = 0; code < 256; code++) {
            char sign = (char) code;
            if (KINDS.indexOf(sign) < 0 && sign != ';') {
                lettersWrong("" + sign, 1, 0);
                lettersWrong("F" + sign, 1, 1);
                lettersWrong(KINDS + sign, 1, 7);
            }
        }
    }

    private void noneTwice() {
        for (char letter : KINDS.toCharArray()) {
            lettersWrong("" + letter + letter, 3, 1);
            right("G;" + letter + ";" + letter + ";-.", 1);
        }
        right("GG;G;G;-.", 2);
        right("G;TGPQFMI;TGPQFMI;-.", 1);
        lettersWrong("GFG", 3, 2);
        lettersWrong("TGPQFMT", 3, 6);
    }

    private void oneToSix() {
        wrong("G;G;G;.", 1, 6);
        for (int many = 1; many <= 6; many++) {
            right("G;G;G;" + "azbycx".substring(0, many) + ".", 1);
            right("G;G;G;" + "zzzzzz".substring(0, many) + ".", 1);
        }
        wrong("G;G;G;azbycxa.", 2, 12);
        for (int code = 0; code < 256; code++) {
            char sign = (char) code;
            if (sign >= 'a' && sign <= 'z') {
                right("G;G;G;" + sign + ".", 1);
                right("G;G;G;aaaaa" + sign + ".", 1);
                wrong("G;G;G;aaaaaa" + sign + ".", 2, 12);
            } else {
                wrong("G;G;G;a" + sign + ".", 1, sign == '.' ? 8 : 7);
                wrong("G;G;G;aaaaaa" + sign + ".", 1, sign == '.' ? 13 : 12);
            }
            if (sign != '-' && (sign < 'a' || sign > 'z')) {
                wrong("G;G;G;" + sign + ".", 1, 6);
            }
        }
    }

    private void noEnding() {
        right("G;G;G;-.", 1);
        wrong("G;G;G;--.", 1, 7);
        wrong("G;G;G;-a.", 1, 7);
        wrong("G;G;G;a-.", 1, 7);
        wrong("G;G;G;-", 1, 7);
        Desk desk = new Desk();
        desk.shape(0, "M?F?;G;G;n.");
        desk.name(0, "Jon");
        bounds.due("with an ENDING", desk.all(0), "F:2 M:3");
        desk.shape(0, "M?F?;G;G;-.");
        bounds.due("with none", desk.all(0), "F:2");
    }

    private void firstBytes() {
        Desk desk = new Desk();
        desk.feed("G;G;G;-.G;G;G;-.");
        bounds.due("the first 8 of 16", desk.shape(0, 8), 1);
        desk.feed("G;G;G;-.G;G;G;-.");
        bounds.due("the first 9", desk.shape(0, 9), -1);
        bounds.due("the ninth", desk.fault(1), 8);
        desk.feed("G;G;G;-.G;G;G;-.");
        bounds.due("the first 7", desk.shape(0, 7), -1);
        bounds.due("behind the seventh", desk.fault(1), 7);
        String longest = "T?G?P?Q?F?M?I?G?;TGPQFMI;IMFQPGT;abcdef.";
        bounds.due("the longest, 40", desk.shape(0, longest), 8);
    }

    private void emptyThen() {
        Desk desk = new Desk();
        desk.feed("G;G;G;-.");
        bounds.due("a SHAPE", desk.shape(0, 8), 1);
        bounds.due("no byte left", desk.shape(0, 1), -2);
        bounds.due("feed", desk.feed("G;G;G;-."), 20);
        bounds.due("a FAULT", desk.shape(0, 3), -1);
        bounds.due("no byte left", desk.shape(0, 1), -2);
        bounds.due("feed", desk.feed("G;G;G;-."), 20);
        bounds.due("no bytes at all", desk.shape(0, 0), -1);
        bounds.due("no byte left", desk.shape(0, 1), -2);
    }

    private void fromNowOn() {
        Desk desk = new Desk();
        desk.name(0, "Ann Lee");
        bounds.due("ahead of it", desk.all(0) + desk.keyOf(0) + desk.callOf(0), "");
        desk.shape(0, "GF;FG;F;-.");
        bounds.due("READINGS", desk.all(0), "GF:4");
        bounds.due("KEY", desk.keyOf(0), "lee ann");
        bounds.due("CALL", desk.callOf(0), "Lee");
        desk.shape(0, "FG;FG;G;-.");
        bounds.due("READINGS by another", desk.all(0), "FG:4");
        bounds.due("KEY by another", desk.keyOf(0), "ann lee");
        bounds.due("CALL by another", desk.callOf(0), "Lee");
        desk.shape(0, "G;G;G;-.");
        bounds.due("READINGS by one that does not fit", desk.all(0) + desk.keyOf(0) + desk.callOf(0), "");
        desk.shape(0, "G*M;M;M;ee.");
        bounds.due("by an ENDING", desk.all(0) + desk.keyOf(0) + desk.callOf(0), "GM:5leeLee");
        inTurn();
    }

    private static final String[] SHAPES = {"TG;TG;T;-.", "G;G;G;-.", "GT?;GT;T;ee.", "G*F*;F;FG;-.", "F+M?;M;MF;ee.",
        "G?G?T?M?F?;TM;F;lee.", "TM;T;TGPQFMI;e.", "M?T?;MT;M;nn.", "P*Q*I*;P;Q;-.", "T+;IT;T;abcdef."};

    private static Desk known() {
        Desk desk = new Desk();
        desk.know(0, 0, "Ann");
        desk.know(0, 0, "Lee");
        desk.know(0, 1, "L");
        desk.name(0, "Ann Lee");
        return desk;
    }

    private static String shown(Desk desk) {
        return desk.all(0) + "/" + desk.keyOf(0) + "/" + desk.callOf(0);
    }

    /** One SHAPE behind another, each with each, shows what it does on a new desk. */
    private void inTurn() {
        for (String first : SHAPES) {
            for (String second : SHAPES) {
                Desk desk = known();
                for (String text : new String[] {first, second, first, second, second}) {
                    Desk other = known();
                    other.shape(0, text);
                    desk.shape(0, text);
                    bounds.due(text + " behind another", shown(desk), shown(other));
                }
            }
        }
    }

    private void howMany() {
        for (int many = 1; many <= 8; many++) {
            right("TGPQFMIT".substring(0, many) + ";G;G;-.", many);
            right("T+G?P*Q+F?M*I+T?".substring(0, 2 * many) + ";G;G;-.", many);
        }
    }

    private void withFault() {
        Desk desk = new Desk();
        Scene.build(desk);
        String was = desk.all(0) + desk.keyOf(0) + desk.callOf(0) + desk.order();
        bounds.due("a FAULT", desk.shape(0, "F;F;F;-"), -1);
        bounds.due("the SHAPE as it was", desk.all(0) + desk.keyOf(0) + desk.callOf(0) + desk.order(), was);
        bounds.due("no bytes", desk.shape(0, 0), -1);
        bounds.due("the SHAPE as it was", desk.all(0) + desk.keyOf(0) + desk.callOf(0) + desk.order(), was);
        bounds.due("a FAULT where no SHAPE is", desk.shape(2, "G*;G;G;-"), -1);
        bounds.due("no SHAPE", desk.readings(4, 40), 0);
        bounds.due("count(2)", desk.count(2), 2);
        bounds.due("without FAULT", desk.shape(2, "G*;G;G;-."), 1);
        bounds.due("count(2)", desk.count(2), 3);
    }

    private void noSuchLand() {
        for (int land : new int[] {-1, 6, Bounds.LEAST, Bounds.MOST}) {
            bounds.refused("shape(" + land + ", 8)", -2, "G;G;G;-.", desk -> desk.shape(land, 8));
            bounds.refused("shape(" + land + ", 0)", -2, "G;G;G;-.", desk -> desk.shape(land, 0));
            bounds.refused("shape(" + land + ", 3) with a FAULT", -2, "G;G;G;-.", desk -> desk.shape(land, 3));
        }
        Desk desk = new Desk();
        desk.feed("G;G;G;-.");
        bounds.due("LAND 6", desk.shape(6, 8), -2);
        bounds.due("the same bytes", desk.shape(5, 8), 1);
    }

    private void noSuchLength() {
        for (int n : new int[] {-1, 21, Bounds.LEAST, Bounds.MOST}) {
            bounds.refused("shape(0, " + n + ")", -2, "G;G;G;-.", desk -> desk.shape(0, n));
            bounds.refused("shape(6, " + n + ")", -2, "G;G;G;-.", desk -> desk.shape(6, n));
        }
        for (int many = 20; many <= 400; many += 20) {
            Desk desk = new Desk();
            for (int i = 0; i < many; i += 20) {
                desk.feed(0, 0, 0, 0, 0);
            }
            bounds.due("one more than " + many, desk.shape(0, many + 1), -2);
            bounds.due("all " + many, desk.shape(0, many), -1);
            bounds.due("one of none", desk.shape(0, 1), -2);
            bounds.due("none of none", desk.shape(0, 0), -1);
        }
    }
}
