/** Promise 4 (fault), and what the FAULTS are. */
final class BoundsOfFaults {
    private final Bounds bounds;

    BoundsOfFaults(Bounds bounds) {
        this.bounds = bounds;
    }

    void run() {
        bounds.sentence(4, "FAULTS, the first along the TEXT", this::firstAlong);
        bounds.sentence(4, "(of one place the least)", this::leastOfOnePlace);
        bounds.sentence(4, "with its place: 1 what can't stand there", this::cannotStand);
        bounds.sentence(4, "(the length, if more must come)", this::moreMustCome);
        bounds.sentence(4, "2 too much: a ninth SLOT", this::ninthSlot);
        bounds.sentence(4, "a seventh letter of the ENDING (at it)", this::seventhLetter);
        bounds.sentence(4, "3 a letter in SORT, CALL a second time (at it)", this::secondTime);
        bounds.sentence(4, "Of the latest shape() that was not -2", this::latest);
        bounds.sentence(4, "what 0: its FAULT (0)", this::itsFault);
        bounds.sentence(4, "1: its place (NONE without).", this::itsPlace);
        bounds.sentence(4, "NONE for another what.", this::another);
    }

    /** The FAULT is told, the TAPE is empty, and the LAND's SHAPE is as it was. */
    static void wrong(Bounds bounds, String text, int number, int place) {
        Desk desk = new Desk();
        desk.shape(0, "F;F;F;-.");
        desk.name(0, "Aa");
        bounds.due(text, desk.shape(0, text), -1);
        bounds.due(text + " fault(0)", desk.fault(0), number);
        bounds.due(text + " fault(1)", desk.fault(1), place);
        bounds.due(text + " leaves the TAPE", desk.shape(0, 1), -2);
        bounds.due(text + " leaves the SHAPE", desk.cost(0, 0) * 10 + desk.kind(0, 0, 0), 24);
        bounds.due(text + " leaves count(2)", desk.count(2), 1);
    }

    private void wrong(String text, int number, int place) {
        wrong(bounds, text, number, place);
    }

    private void firstAlong() {
        wrong("GGGGGGGGG;GG;G;abcdefg", 2, 8);
        wrong("GGGGGGGG;GG;GG;abcdefg", 3, 10);
        wrong("GGGGGGGG;G;GG;abcdefg", 3, 12);
        wrong("GGGGGGGG;G;G;abcdefg", 2, 19);
        wrong("GGGGGGGG;G;G;abcdef", 1, 19);
        wrong("x;GG;GG;abcdefg", 1, 0);
        wrong("G;GxG;GG;abcdefg", 1, 3);
        wrong("G;GGx;GG;abcdefg", 3, 3);
        wrong("GGGGGGGGGx", 2, 8);
        wrong("G;G;G;abcdefgG", 2, 12);
    }

    private void leastOfOnePlace() {
        wrong("G;G;G;abcdefG.", 1, 12);
        wrong("GGGGGGGGg;G;G;-.", 1, 8);
        wrong("GGGGGGGG?;G?;G;-.", 1, 11);
        wrong("GGGGGGGG??;G;G;-.", 1, 9);
        wrong("G;Gg;G;-.", 1, 3);
    }

    private void cannotStand() {
        wrong("?;G;G;-.", 1, 0);
        wrong("Gx;G;G;-.", 1, 1);
        wrong("G;?;G;-.", 1, 2);
        wrong("G;G?;G;-.", 1, 3);
        wrong("G;G;+;-.", 1, 4);
        wrong("G;G;G*;-.", 1, 5);
        wrong("G;G;G;?.", 1, 6);
        wrong("G;G;G;-x", 1, 7);
        wrong("G;G;G;-.G", 1, 8);
        wrong("G;G;G;-.\0", 1, 8);
    }

    /** Both when the TAPE has no more and when it has more than n bytes. */
    private void moreMustCome() {
        String[] wholes = {"G;G;G;-.", "T?G+F;FG;TF;son.", "T?G?P?Q?F?M?I?G?;TGPQFMI;IMFQPGT;abcdef."};
        for (String whole : wholes) {
            for (int n = 0; n < whole.length(); n++) {
                wrong(whole.substring(0, n), 1, n);
                Desk desk = new Desk();
                desk.feed(whole);
                bounds.due("first " + n + " of " + whole, desk.shape(0, n), -1);
                bounds.due("FAULT", desk.fault(0), 1);
                bounds.due("place", desk.fault(1), n);
                bounds.due("count(2)", desk.count(2), 0);
            }
            Desk desk = new Desk();
            bounds.due("all of " + whole, desk.shape(0, whole) > 0, true);
        }
    }

    private void ninthSlot() {
        wrong("GGGGGGGGG", 2, 8);
        wrong("GGGGGGGGG;G;G;-.", 2, 8);
        wrong("GGGGGGGG?T?;G;G;-.", 2, 9);
        wrong("T?G?P?Q?F?M?I?T?G?;G;G;-.", 2, 16);
        wrong("GGGGGGGGGGGG;G;G;-.", 2, 8);
        wrong("GGGGGGGG", 1, 8);
        Desk desk = new Desk();
        bounds.due("eight", desk.shape(0, "GGGGGGGG;G;G;-."), 8);
        bounds.due("no FAULT", desk.fault(0), 0);
    }

    private void seventhLetter() {
        wrong("G;G;G;abcdefg.", 2, 12);
        wrong("G;G;G;abcdefg", 2, 12);
        wrong("G;G;G;abcdefgh.", 2, 12);
        wrong("G;G;G;aaaaaaa.", 2, 12);
        wrong("G;G;G;abcdef", 1, 12);
        wrong("G;G;G;abcdef-", 1, 12);
        Desk desk = new Desk();
        bounds.due("six", desk.shape(0, "G;G;G;abcdef."), 1);
        bounds.due("no FAULT", desk.fault(0), 0);
    }

    private void secondTime() {
        String kinds = "TGPQFMI";
        for (int first = 0; first < 7; first++) {
            for (int second = first + 1; second <= 7; second++) {
                // The letter at first comes again at second, behind letters that are all others.
                String letters = kinds.substring(0, second) + kinds.charAt(first) + kinds.substring(second);
                wrong("G;" + letters + ";G;-.", 3, 2 + second);
                wrong("G;" + letters.substring(0, second + 1), 3, 2 + second);
                wrong("G;T;" + letters + ";-.", 3, 4 + second);
            }
        }
        Desk desk = new Desk();
        bounds.due("each once in both", desk.shape(0, "G;TGPQFMI;TGPQFMI;-."), 1);
        bounds.due("no FAULT", desk.fault(0), 0);
    }

    private void latest() {
        Desk desk = new Desk();
        faultIs(desk, "a new desk", 0, -1);
        bounds.due("no such LAND", desk.shape(6, 0), -2);
        faultIs(desk, "after -2 alone", 0, -1);
        desk.shape(0, "G;GG");
        faultIs(desk, "after a FAULT", 3, 3);
        bounds.due("no such LAND", desk.shape(6, 0), -2);
        bounds.due("no such LAND", desk.shape(-1, 0), -2);
        bounds.due("no such n", desk.shape(0, 1), -2);
        bounds.due("no such n", desk.shape(0, -1), -2);
        faultIs(desk, "after -2", 3, 3);
        desk.shape(1, "GGGGGGGGGG");
        faultIs(desk, "after another LAND's FAULT", 2, 8);
        desk.shape(2, "G;G;G;-.");
        faultIs(desk, "after a SHAPE", 0, -1);
        bounds.due("no such LAND", desk.shape(6, 0), -2);
        faultIs(desk, "after -2 behind a SHAPE", 0, -1);
        desk.shape(2, 0);
        faultIs(desk, "after no bytes", 1, 0);
        desk.name(0, "Aa");
        desk.know(0, 1, "Aa");
        desk.forget(0, 1, "Aa");
        desk.table('a', "");
        desk.name(0, " ");
        faultIs(desk, "after other calls", 1, 0);
    }

    private void faultIs(Desk desk, String when, int number, int place) {
        bounds.due(when + ", fault(0)", desk.fault(0), number);
        bounds.due(when + ", fault(1)", desk.fault(1), place);
    }

    private void itsFault() {
        String[] texts = {"G;G;G;-.", "G;G;G;-", "GGGGGGGGG", "G;GG"};
        for (int number = 0; number < texts.length; number++) {
            Desk desk = new Desk();
            desk.shape(0, texts[number]);
            bounds.due(texts[number], desk.fault(0), number);
            bounds.due(texts[number] + ", again", desk.fault(0), number);
        }
    }

    private void itsPlace() {
        Desk desk = new Desk();
        desk.shape(0, 0);
        bounds.due("the least place", desk.fault(1), 0);
        desk.shape(0, "G;G;G;-.");
        bounds.due("without FAULT", desk.fault(1), -1);
        desk.shape(0, "T?G?P?Q?F?M?I?G?;TGPQFMI;IMFQPGT;abcdef.x");
        bounds.due("the greatest place", desk.fault(1), 40);
    }

    private void another() {
        for (int what : new int[] {-1, 2, 3, Bounds.LEAST, Bounds.MOST}) {
            bounds.due("new, fault(" + what + ")", new Desk().fault(what), -1);
            bounds.refused("fault(" + what + ")", -1, "Ann", desk -> desk.fault(what));
        }
    }
}
