import java.util.ArrayList;
import java.util.Collections;
import java.util.List;
import java.util.Set;
import java.util.TreeSet;

/** Promises 8 (readings), 9 (cost), 10 (kind), and what READINGS and their COSTS are. */
final class BoundsOfReadings {
    private static final String KINDS = "TGPQFMI";
    private final Bounds bounds;

    BoundsOfReadings(Bounds bounds) {
        this.bounds = bounds;
    }

    void run() {
        bounds.sentence(10, "KINDS of words: 0 T title, 1 G given, 2 P particle that isn't sorted, 3 Q particle that is, "
                + "4 F family, 5 M made, 6 I initial.", this::kindNumbers);
        bounds.sentence(8, "READINGS of a NAME, by the SHAPE its LAND has now (without one there is none)", this::shapeNow);
        bounds.sentence(8, "rows of KINDS, one for each WORD, that the SLOTS can have in order", this::rowsOfSlots);
        bounds.sentence(8, "(each row once).", this::eachRowOnce);
        bounds.sentence(9, "COST: the sum over WORDS.", this::sumOverWords);
        bounds.sentence(9, "T, P, Q: 0, if the BOOK of the LAND has it as such, else it can't be read so.", this::titles);
        bounds.sentence(9, "G, F: 0 if the BOOK has it as such; else 5 if it has it as T, P or Q; else 2.", this::givens);
        bounds.sentence(9, "M: only with an ENDING", this::madeNeedsEnding);
        bounds.sentence(9, "if FOLDED is longer than that and ends with it", this::madeIsLonger);
        bounds.sentence(9, "0 if the BOOK has what is ahead of it as G, else 3.", this::madeOfGiven);
        bounds.sentence(9, "I: 0, if FOLDED is one letter, else it can't be.", this::initials);
        bounds.sentence(9, "In order: the lesser COST first", this::lesserFirst);
        bounds.sentence(10, "of like ones by the KINDS' numbers from the first WORD on.", this::likeOnes);
        bounds.sentence(8, "The FIRST one is the NAME's READING.", this::firstOne);
        bounds.sentence(8, "How many READINGS have a COST of so much at most", this::soMuchAtMost);
        bounds.sentence(8, "NONE: no such NAME", this::readingsNoName);
        bounds.sentence(8, "or below 0.", this::readingsBelow);
        bounds.sentence(9, "COST of READING r (from 0 on)", this::costFromZero);
        bounds.sentence(9, "NONE if there is none such.", this::costNone);
        bounds.sentence(10, "The KIND of WORD w in READING r", this::kindOfWord);
        bounds.sentence(10, "NONE if there is none such.", this::kindNone);
    }

    private void kindNumbers() {
        String[] words = {"dr", "ann", "van", "de", "lee", "annson", "x"};
        for (int kind = 0; kind < 7; kind++) {
            Desk desk = Desk.of(KINDS.charAt(kind) + ";G;G;son.", words[kind]);
            if (kind < 5) {
                desk.know(0, kind, words[kind]);
            }
            bounds.due("readings", desk.readings(0, 40), 1);
            bounds.due("kind of " + KINDS.charAt(kind), desk.kind(0, 0, 0), kind);
        }
    }

    private void shapeNow() {
        Desk desk = new Desk();
        desk.name(3, "Ann Lee");
        bounds.due("without", desk.readings(0, Bounds.MOST), 0);
        bounds.due("without, cost", desk.cost(0, 0), -1);
        bounds.due("without, kind", desk.kind(0, 0, 0), -1);
        for (int land = 0; land < 6; land++) {
            if (land != 3) {
                desk.shape(land, "G*F*;G;G;-.");
            }
        }
        bounds.due("other LANDS' SHAPES", desk.readings(0, Bounds.MOST), 0);
        desk.shape(3, "G*F");
        bounds.due("a FAULT", desk.readings(0, Bounds.MOST), 0);
        desk.shape(3, "GF;G;G;-.");
        bounds.due("its own", desk.all(0), "GF:4");
        desk.shape(3, "F*G;G;G;-.");
        bounds.due("its own now", desk.all(0), "FG:4");
        desk.shape(3, "G;G;G;-.");
        bounds.due("one that does not fit", desk.readings(0, Bounds.MOST), 0);
        desk.shape(3, "G+;G;G;-.");
        bounds.due("its own now", desk.all(0), "GG:4");
        Desk two = Desk.of("GG*;G;G;-.", "aa bb");
        two.shape(1, "TG*;G;G;-.");
        two.name(1, "aa bb");
        two.name(2, "aa bb");
        for (int turn = 0; turn < 2; turn++) {
            bounds.due("one that fits", two.all(0), "GG:4");
            bounds.due("asked behind it, one that does not fit", two.all(1), "");
            bounds.due("one that fits", two.all(0), "GG:4");
            bounds.due("asked behind it, none", two.all(2), "");
        }
    }

    private void rowsOfSlots() {
        bounds.due("one for one", Desk.of("G;G;G;-.", "aa").all(0), "G:2");
        bounds.due("too few WORDS", Desk.of("GF;G;G;-.", "aa").all(0), "");
        bounds.due("too many WORDS", Desk.of("GF;G;G;-.", "aa bb cc").all(0), "");
        bounds.due("GF", Desk.of("GF;G;G;-.", "aa bb").all(0), "GF:4");
        bounds.due("FG", Desk.of("FG;G;G;-.", "aa bb").all(0), "FG:4");
        bounds.due("G*F*", Desk.of("G*F*;G;G;-.", "aa bb").all(0), "GG:4 GF:4 FF:4");
        bounds.due("F?G?", Desk.of("F?G?;G;G;-.", "aa").all(0), "G:2 F:2");
        bounds.due("F?G?", Desk.of("F?G?;G;G;-.", "aa bb").all(0), "FG:4");
        bounds.due("F?G?", Desk.of("F?G?;G;G;-.", "aa bb cc").all(0), "");
        bounds.due("G+FG*", Desk.of("G+FG*;G;G;-.", "aa bb cc").all(0), "GGF:6 GFG:6");
        bounds.due("GF+G?", Desk.of("GF+G?;G;G;-.", "aa bb cc").all(0), "GFG:6 GFF:6");
        bounds.due("eight", Desk.of("GFGFGFGF;G;G;-.", "aa bb cc dd ee ff gg hh").all(0), "GFGFGFGF:16");
        bounds.due("the last repeats", Desk.of("F+G*;G;G;-.", "aa bb cc").all(0), "FGG:6 FFG:6 FFF:6");
    }

    private void eachRowOnce() {
        bounds.due("G*G*", Desk.of("G*G*;G;G;-.", "aa bb cc").all(0), "GGG:6");
        bounds.due("G?G?G?", Desk.of("G?G?G?;G;G;-.", "aa").all(0), "G:2");
        bounds.due("G?G?G?", Desk.of("G?G?G?;G;G;-.", "aa bb").all(0), "GG:4");
        bounds.due("G*F?G*", Desk.of("G*F?G*;G;G;-.", "aa bb").all(0), "GG:4 GF:4 FG:4");
        bounds.due("eight G*", Desk.of("G*G*G*G*G*G*G*G*;G;G;-.", "aa bb cc dd ee ff gg hh").readings(0, 40), 1);
        Desk desk = Desk.of("G*F*G*F*G*F*G*F*;G;G;-.", "aa bb cc dd ee ff gg hh");
        Set<String> rows = new TreeSet<>();
        grow("GFGFGFGF", 0, "", rows);
        bounds.due("G and F in turn", desk.readings(0, 40), rows.size());
        most();
    }

    /** All rows of eight KINDS that SLOTS which take any number can have. */
    private static void grow(String slots, int slot, String row, Set<String> rows) {
        if (row.length() == 8) {
            rows.add(row);
            return;
        }
        for (int s = slot; s < slots.length(); s++) {
            grow(slots, s, row + slots.charAt(s), rows);
        }
    }

    /** One letter that is known as all it can be, eight times: no SHAPE has more rows than the best of these. */
    private static Desk known(String slots) {
        Desk desk = new Desk();
        desk.shape(0, slots.replaceAll("(.)", "$1*") + ";G;G;-.");
        for (int kind = 0; kind < 5; kind++) {
            desk.know(0, kind, "x");
        }
        desk.name(0, "x x x x x x x x");
        return desk;
    }

    private void most() {
        for (String slots : new String[] {"TGPQFITG", "ITGPQFIT", "TGPQFIGT", "IFQPGTIF"}) {
            Set<String> found = new TreeSet<>();
            grow(slots, 0, "", found);
            List<String> numbers = new ArrayList<>();
            for (String row : found) {
                StringBuilder number = new StringBuilder();
                for (char letter : row.toCharArray()) {
                    number.append(KINDS.indexOf(letter));
                }
                numbers.add(number.toString());
            }
            Collections.sort(numbers);
            int many = numbers.size();
            bounds.due(slots, known(slots).readings(0, 0), many);
            bounds.due(slots + " behind the last", known(slots).cost(0, many), -1);
            Desk desk = known(slots);
            for (int r = 0; r < many; r++) {
                if (desk.callsLeft() < 20) {
                    desk = known(slots);
                }
                StringBuilder row = new StringBuilder();
                for (int w = 0; w < 8; w++) {
                    row.append(desk.kind(0, r, w));
                }
                bounds.due(slots + " row " + r, row.toString(), numbers.get(r));
            }
        }
    }

    private void sumOverWords() {
        StringBuilder name = new StringBuilder();
        for (int many = 1; many <= 8; many++) {
            name.append(many == 1 ? "" : " ").append("de");
            Desk desk = Desk.of("F+;G;G;-.", name.toString());
            bounds.due("unknown, " + many, desk.cost(0, 0), 2 * many);
            desk.know(0, 2, "de");
            bounds.due("a particle, " + many, desk.cost(0, 0), 5 * many);
            desk.know(0, 4, "de");
            bounds.due("known, " + many, desk.cost(0, 0), 0);
        }
        Desk desk = Desk.of("T?G?G?M?F?F?;G;G;son.", "Dr Jo Al Abson De Lee");
        desk.know(0, 0, "dr");
        desk.know(0, 1, "al");
        desk.know(0, 3, "de");
        bounds.due("0 + 2 + 0 + 3 + 5 + 2", desk.cost(0, 0), 12);
        bounds.due("its KINDS", desk.row(0, 0), "TGGMFF");
    }

    private void titles() {
        for (int kind : new int[] {0, 2, 3}) {
            String letter = "" + KINDS.charAt(kind);
            for (int known = 0; known < 5; known++) {
                Desk desk = Desk.of(letter + ";G;G;-.", "De", "Dee", "D");
                desk.know(1, kind, "de");
                bounds.due(letter + " in another LAND's BOOK", desk.all(0), "");
                desk.know(0, known, "de");
                bounds.due(letter + " known as " + KINDS.charAt(known), desk.all(0), known == kind ? letter + ":0" : "");
                bounds.due("one letter more", desk.all(1), "");
                bounds.due("one letter less", desk.all(2), "");
                desk.forget(0, known, "de");
                bounds.due("forgotten", desk.all(0), "");
            }
        }
    }

    /** Each set of KINDS that the BOOK can have a WORD as. */
    private void givens() {
        for (int set = 0; set < 32; set++) {
            Desk desk = Desk.of("T?G?P?Q?F?;G;G;-.", "De", "Dee");
            for (int kind = 0; kind < 5; kind++) {
                desk.know(1, kind, "de");
                if ((set >> kind & 1) != 0) {
                    desk.know(0, kind, "D-e.");
                }
            }
            boolean hidden = (set & 0b01101) != 0;
            int given = (set & 0b00010) != 0 ? 0 : hidden ? 5 : 2;
            int family = (set & 0b10000) != 0 ? 0 : hidden ? 5 : 2;
            List<String> rows = new ArrayList<>();
            for (int kind = 0; kind < 5; kind++) {
                int cost = kind == 1 ? given : kind == 4 ? family : 0;
                if (kind == 1 || kind == 4 || (set >> kind & 1) != 0) {
                    rows.add("" + cost + kind + KINDS.charAt(kind) + ":" + cost);
                }
            }
            Collections.sort(rows);
            bounds.due("known as " + set, desk.all(0), String.join(" ", rows).replaceAll("\\d\\d([A-Z])", "$1"));
            bounds.due("another WORD", desk.all(1), "G:2 F:2");
        }
    }

    private void madeNeedsEnding() {
        bounds.due("with one", Desk.of("M;G;G;son.", "Jonson").all(0), "M:3");
        bounds.due("with -", Desk.of("M;G;G;-.", "Jonson").all(0), "");
        bounds.due("with one letter", Desk.of("M;G;G;n.", "Jonson").all(0), "M:3");
        bounds.due("with six", Desk.of("M;G;G;jonson.", "Ajonson").all(0), "M:3");
        Desk desk = Desk.of("M?G?;G;G;son.", "Jonson");
        desk.know(0, 1, "Jon");
        bounds.due("its ENDING", desk.all(0), "M:0 G:2");
        desk.shape(0, "M?G?;G;G;-.");
        bounds.due("none now", desk.all(0), "G:2");
        desk.know(0, 1, "Jonson");
        bounds.due("known whole", desk.all(0), "G:0");
    }

    private void madeIsLonger() {
        String[] endings = {"n", "on", "son", "sson", "nsson", "onsson"};
        for (String ending : endings) {
            Desk desk = Desk.of("M;G;G;" + ending + ".", ending, "A" + ending, "A-" + ending.toUpperCase() + "'.",
                    ending.substring(1) + "x", "A" + ending + "s", "Ax" + ending.substring(1), ending + "a");
            String[] due = {"", "M:3", "M:3", "", "", "", ""};
            for (int name = 0; name < due.length; name++) {
                bounds.due("ENDING " + ending + ", NAME " + name, desk.all(name), due[name]);
            }
        }
        Desk marked = Desk.of("M;G;G;son.", "Son.", "S'on-", "Son-----------------.", "A-son'", "A'-S-on.");
        for (int name = 0; name < 5; name++) {
            bounds.due("FOLDED counts, NAME " + name, marked.all(name), name < 3 ? "" : "M:3");
        }
        Desk desk = Desk.of("M;G;G;zzzzzz.", "zzzzzz", "zzzzzzz", "zzzzz", "azzzzzz", "zzzzzzzzzzzzzzzzzzzz", "z");
        String[] due = {"", "M:3", "", "M:3", "M:3", ""};
        for (int name = 0; name < due.length; name++) {
            bounds.due("ENDING zzzzzz, NAME " + name, desk.all(name), due[name]);
        }
    }

    private void madeOfGiven() {
        Desk desk = Desk.of("M;G;G;son.", "Jon-Son", "Joson", "Jonnson", "Son", "Aabcdefghijklmnopson");
        for (int kind : new int[] {0, 2, 3, 4}) {
            desk.know(0, kind, "Jon");
            bounds.due("known as " + KINDS.charAt(kind), desk.all(0), "M:3");
        }
        desk.know(0, 1, "Jonson");
        desk.know(0, 1, "Son");
        bounds.due("known whole, and its ENDING", desk.all(0), "M:3");
        desk.know(1, 1, "Jon");
        bounds.due("known in another LAND", desk.all(0), "M:3");
        desk.know(0, 1, "J'ON.");
        bounds.due("known as G", desk.all(0), "M:0");
        bounds.due("one letter less", desk.all(1), "M:3");
        bounds.due("one letter more", desk.all(2), "M:3");
        bounds.due("nothing ahead", desk.all(3), "");
        desk.know(0, 1, "Aabcdefghijklmnop");
        bounds.due("the longest", desk.all(4), "M:0");
        desk.forget(0, 1, "jon");
        bounds.due("forgotten", desk.all(0), "M:3");
        desk.shape(0, "M;G;G;nson.");
        bounds.due("another ENDING", desk.all(0), "M:3");
        desk.know(0, 1, "jo");
        bounds.due("known with that", desk.all(0), "M:0");
    }

    private void initials() {
        Desk desk = Desk.of("I;G;G;-.", "A", "z", "A.", "B'", "C-------------------.", "ab", "A-b", "a'b.");
        for (int name = 0; name < 5; name++) {
            bounds.due("one letter, NAME " + name, desk.all(name), "I:0");
        }
        for (int name = 5; name < 8; name++) {
            bounds.due("two letters, NAME " + name, desk.all(name), "");
        }
        Desk known = Desk.of("I?G?;G;G;-.", "a", "ab");
        known.know(0, 1, "a");
        known.know(0, 1, "ab");
        bounds.due("known as G", known.all(0), "G:0 I:0");
        bounds.due("two letters known as G", known.all(1), "G:0");
        known.know(0, 0, "a");
        known.forget(0, 1, "a");
        bounds.due("known as T", known.all(0), "I:0 G:5");
    }

    private void lesserFirst() {
        Desk desk = Desk.of("G?F?M?I?;G;G;s.", "as");
        bounds.due("2, 2, 3", desk.all(0), "G:2 F:2 M:3");
        desk.know(0, 0, "as");
        bounds.due("3, 5, 5", desk.all(0), "M:3 G:5 F:5");
        desk.know(0, 4, "as");
        bounds.due("0, 3, 5", desk.all(0), "F:0 M:3 G:5");
        desk.know(0, 1, "a");
        bounds.due("0, 0, 5", desk.all(0), "F:0 M:0 G:5");
        desk.forget(0, 4, "as");
        bounds.due("0, 5, 5", desk.all(0), "M:0 G:5 F:5");
        Desk two = Desk.of("G*F*M*;G;G;s.", "as bs");
        two.know(0, 4, "as");
        bounds.due("of two WORDS", two.all(0), "FF:2 FM:3 GG:4 GF:4 GM:5 MM:6");
        Desk eight = Desk.of("T*G*;G;G;-.", "de de de de de de de de");
        eight.know(0, 0, "de");
        for (int r = 0; r <= 8; r++) {
            bounds.due("from 0 to 40", eight.row(0, r) + eight.cost(0, r), "TTTTTTTTGGGGGGGG".substring(r, r + 8) + 5 * r);
            bounds.due("at most " + 5 * r, eight.readings(0, 5 * r), r + 1);
            bounds.due("at most " + (5 * r + 4), eight.readings(0, 5 * r + 4), r + 1);
        }
        bounds.due("behind them", eight.cost(0, 9), -1);
    }

    private void likeOnes() {
        Desk desk = Desk.of("F*G*F*;G;G;-.", "aa bb cc");
        bounds.due("by the first, then the second, then the third", desk.all(0),
                "GGG:6 GGF:6 GFF:6 FGG:6 FGF:6 FFG:6 FFF:6");
        Desk all = Desk.of("I?F?Q?P?G?T?;G;G;-.", "x");
        for (int kind = 0; kind < 5; kind++) {
            all.know(0, kind, "x");
        }
        bounds.due("all at 0", all.all(0), "T:0 G:0 P:0 Q:0 F:0 I:0");
        Desk made = Desk.of("I?M?F?;G;G;s.", "as");
        made.know(0, 1, "a");
        made.know(0, 4, "as");
        bounds.due("F ahead of M", made.all(0), "F:0 M:0");
        Desk last = Desk.of("G*F*G?;G;G;-.", "aa bb cc dd ee ff gg hh");
        bounds.due("the first", last.row(0, 0), "GGGGGGGG");
        bounds.due("unlike in the last WORD", last.row(0, 1), "GGGGGGGF");
        bounds.due("the last", last.row(0, last.readings(0, 40) - 1), "FFFFFFFF");
    }

    private void firstOne() {
        Desk desk = Desk.of("G?F?;FG;F;-.", "aa");
        bounds.due("the first is G", desk.all(0), "G:2 F:2");
        bounds.due("CALL by it", desk.callOf(0), "");
        desk.know(0, 4, "aa");
        bounds.due("the first is F", desk.all(0), "F:0 G:2");
        bounds.due("CALL by it", desk.callOf(0), "aa");
        desk.know(0, 1, "aa");
        bounds.due("the first is G", desk.all(0), "G:0 F:0");
        bounds.due("CALL by it", desk.callOf(0), "");
        desk.shape(0, "G*F*G*F*;G;F;-.");
        desk.name(0, "aa bb aa bb");
        desk.know(0, 4, "bb");
        desk.forget(0, 4, "aa");
        bounds.due("of four WORDS", desk.row(1, 0) + desk.cost(1, 0), "GFGF0");
        bounds.due("KEY by it", desk.keyOf(1), "aa aa");
        bounds.due("CALL by it", desk.callOf(1), "bb bb");
        for (int one = 0; one < 7; one++) {
            for (int other = 0; other < 7; other++) {
                firstOfTwo(one, other);
            }
        }
    }

    /** A NAME that was read as GG, by a SHAPE that takes these two KINDS alone. */
    private void firstOfTwo(int one, int other) {
        String[] words = {"dr", "ann", "van", "de", "lee", "annson", "x"};
        String name = words[one] + " " + words[other];
        Desk desk = Desk.of("GG;G;G;son.", name);
        for (int kind = 0; kind < 5; kind++) {
            desk.know(0, kind, words[kind]);
        }
        bounds.due("KEY as GG", desk.keyOf(0), name);
        String kinds = "" + KINDS.charAt(one) + KINDS.charAt(other);
        desk.shape(0, kinds + ";" + (one == other ? kinds.substring(1) : kinds) + ";" + kinds.charAt(1) + ";son.");
        bounds.due("KEY as " + kinds, desk.keyOf(0), name);
        bounds.due("CALL as " + kinds, desk.callOf(0), one == other ? name : words[other]);
        bounds.due("READING as " + kinds, desk.row(0, 0), kinds);
    }

    private void soMuchAtMost() {
        Desk desk = Desk.of("G*F*M*;G;G;s.", "as bs");
        desk.know(0, 4, "as");
        int[] due = {0, 0, 1, 2, 4, 5, 6, 6};
        for (int most = 0; most < due.length; most++) {
            bounds.due("readings(0, " + most + ")", desk.readings(0, most), due[most]);
        }
        Desk dear = Desk.of("G+;G;G;-.", "de de de de de de de de");
        dear.know(0, 0, "de");
        bounds.due("39", dear.readings(0, 39), 0);
        bounds.due("40", dear.readings(0, 40), 1);
        bounds.due("41", dear.readings(0, 41), 1);
        bounds.due("the greatest", dear.readings(0, Bounds.MOST), 1);
        dear.know(0, 1, "de");
        bounds.due("0", dear.readings(0, 0), 1);
    }

    private void readingsNoName() {
        for (int name : new int[] {-1, 6, 29, 30, Bounds.LEAST, Bounds.MOST}) {
            bounds.refused("readings(" + name + ", 40)", -1, "Ann", desk -> desk.readings(name, 40));
            bounds.refused("readings(" + name + ", -1)", -1, "Ann", desk -> desk.readings(name, -1));
        }
        Desk desk = new Desk();
        bounds.due("no NAME yet", desk.readings(0, 0), -1);
        desk.name(0, "A");
        bounds.due("NAME 0", desk.readings(0, 0), 0);
        bounds.due("NAME 1", desk.readings(1, 0), -1);
        for (int i = 1; i < 30; i++) {
            desk.name(0, "A");
        }
        bounds.due("NAME 29", desk.readings(29, 0), 0);
        bounds.due("NAME 30", desk.readings(30, 0), -1);
    }

    private void readingsBelow() {
        for (int cost : new int[] {-1, -2, Bounds.LEAST}) {
            bounds.refused("readings(0, " + cost + ")", -1, "Ann", desk -> desk.readings(0, cost));
            bounds.refused("readings(4, " + cost + ")", -1, "Ann", desk -> desk.readings(4, cost));
        }
        bounds.due("0", Desk.of("I;G;G;-.", "A").readings(0, 0), 1);
        bounds.due("-1", Desk.of("I;G;G;-.", "A").readings(0, -1), -1);
    }

    private void costFromZero() {
        Desk desk = Desk.of("G*F*M*;G;G;s.", "as bs");
        desk.know(0, 4, "as");
        int[] due = {2, 3, 4, 4, 5, 6, -1};
        for (int r = 0; r < due.length; r++) {
            bounds.due("cost(0, " + r + ")", desk.cost(0, r), due[r]);
        }
    }

    private void costNone() {
        for (int r : new int[] {-1, 1, 2, Bounds.LEAST, Bounds.MOST}) {
            bounds.due("one READING, r " + r, Desk.of("G;G;G;-.", "aa").cost(0, r), -1);
            bounds.refused("cost(3, " + r + ")", r == 1 ? 2 : -1, "Ann", desk -> desk.cost(3, r));
        }
        bounds.refused("cost(4, 0)", -1, "Ann", desk -> desk.cost(4, 0));
        for (int name : new int[] {-1, 6, 30, Bounds.LEAST, Bounds.MOST}) {
            bounds.refused("cost(" + name + ", 0)", -1, "Ann", desk -> desk.cost(name, 0));
        }
        bounds.due("one READING, r 0", Desk.of("G;G;G;-.", "aa").cost(0, 0), 2);
    }

    private void kindOfWord() {
        Desk desk = Desk.of("I*G*F;G;G;-.", "a bb cc");
        int[][] due = {{6, 1, 4}, {1, 1, 4}};
        for (int r = 0; r < 2; r++) {
            for (int w = 0; w < 3; w++) {
                bounds.due("kind(0, " + r + ", " + w + ")", desk.kind(0, r, w), due[r][w]);
            }
        }
        Desk eight = Desk.of("GFGFGFGI;G;G;-.", "a a a a a a a a");
        int[] kinds = {1, 4, 1, 4, 1, 4, 1, 6, -1};
        for (int w = 0; w < 9; w++) {
            bounds.due("kind(0, 0, " + w + ")", eight.kind(0, 0, w), kinds[w]);
        }
    }

    private void kindNone() {
        for (int name : new int[] {-1, 6, 30, Bounds.LEAST, Bounds.MOST}) {
            bounds.refused("kind(" + name + ", 0, 0)", -1, "Ann", desk -> desk.kind(name, 0, 0));
        }
        for (int r : new int[] {-1, 4, Bounds.LEAST, Bounds.MOST}) {
            bounds.refused("kind(0, " + r + ", 0)", -1, "Ann", desk -> desk.kind(0, r, 0));
        }
        for (int w : new int[] {-1, 4, 8, 31, 32, Bounds.LEAST, Bounds.MOST}) {
            bounds.refused("kind(0, 0, " + w + ")", -1, "Ann", desk -> desk.kind(0, 0, w));
        }
        bounds.refused("kind(4, 0, 0) without READING", -1, "Ann", desk -> desk.kind(4, 0, 0));
        Desk desk = new Desk();
        Scene.build(desk);
        bounds.due("the last READING", desk.readings(0, 40), 4);
        bounds.due("its last WORD", desk.kind(0, 3, 3), 4);
    }
}
