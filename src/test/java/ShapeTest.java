/** Promises 1 (a new object), 2 (feed), 3 (shape), 4 (fault), 18 (count). */
public final class ShapeTest {
    private static final Check check = new Check("ShapeTest");

    public static void main(String[] args) {
        newObject();
        tapeHasFourHundred();
        bytesComeHighestFirst();
        shapeKeepsOrEmptiesTape();
        rightShapes();
        faults();
        faultOfTheLatest();
        faultLeavesTheOldShape();
        counts();
        check.end();
    }

    private static void newObject() {
        NameDesk desk = new NameDesk();
        check.due("NONE", NameDesk.NONE, -1);
        for (int what = 0; what < 3; what++) {
            check.due("count", desk.count(what), 0);
        }
        check.due("fault(0)", desk.fault(0), 0);
        check.due("fault(1)", desk.fault(1), -1);
        check.due("order(0)", desk.order(0), -1);
        check.due("empty TAPE, name", desk.name(0, 0), -1);
        check.due("empty TAPE, n 1", desk.table(0, 1), false);
        check.due("feed", desk.feed(0, 0, 0, 0, 0), 20);
        Check.clear(desk);
        Check.name(desk, 0, "abcdefghijklmnopqrst uvwxyz");
        check.due("each letter becomes itself", Check.line(desk, 0, 1), "abcdefghijklmnopqrst uvwxyz");
    }

    private static void tapeHasFourHundred() {
        NameDesk desk = new NameDesk();
        for (int i = 1; i <= 20; i++) {
            check.due("feed", desk.feed(-1, -1, -1, -1, -1), i * 20);
        }
        check.due("feed at 400", desk.feed(0, 0, 0, 0, 0), -1);
        check.due("n 401", desk.shape(0, 401), -2);
        check.due("n 400", desk.shape(0, 400), -1);
        check.due("feed again", desk.feed(0, 0, 0, 0, 0), 20);
    }

    private static void bytesComeHighestFirst() {
        NameDesk desk = new NameDesk();
        desk.feed(0x41626364, 0x65666768, 0x696a6b6c, 0x6d6e6f70, 0x71722073);
        desk.feed(0x74000000, 0, 0, 0, 0);
        check.due("name", desk.name(0, 21), 0);
        check.due("signs in order", Check.line(desk, 0, 1), "abcdefghijklmnopqr st");
    }

    private static void shapeKeepsOrEmptiesTape() {
        NameDesk desk = new NameDesk();
        Check.feed(desk, "G;G;G;-.");
        check.due("land -1", desk.shape(-1, 8), -2);
        check.due("land 6", desk.shape(6, 8), -2);
        check.due("n -1", desk.shape(0, -1), -2);
        check.due("n 21", desk.shape(0, 21), -2);
        check.due("greatest n", desk.shape(0, Integer.MAX_VALUE), -2);
        check.due("least land", desk.shape(Integer.MIN_VALUE, 8), -2);
        check.due("the TAPE stayed", desk.shape(5, 8), 1);
        check.due("the TAPE is empty", desk.shape(5, 1), -2);
        Check.feed(desk, "G;G;G;-.");
        check.due("a FAULT", desk.shape(5, 7), -1);
        check.due("the TAPE is empty", desk.shape(5, 1), -2);
    }

    private static void right(String text, int slots) {
        NameDesk desk = new NameDesk();
        check.due(text, Check.shape(desk, 0, text), slots);
        check.due(text + " fault(0)", desk.fault(0), 0);
        check.due(text + " fault(1)", desk.fault(1), -1);
        check.due(text + " count(2)", desk.count(2), 1);
    }

    private static void rightShapes() {
        right("G;G;G;-.", 1);
        right("T?G*P+Q;TGPQFMI;IMFQPGT;a.", 4);
        right("T?G?P?Q?F?M?I?G?;F;G;abcdef.", 8);
        right("TGPQFMIG;F;G;zzzzzz.", 8);
    }

    private static void wrong(String text, int number, int place) {
        NameDesk desk = new NameDesk();
        check.due(text, Check.shape(desk, 0, text), -1);
        check.due(text + " fault(0)", desk.fault(0), number);
        check.due(text + " fault(1)", desk.fault(1), place);
        check.due(text + " fault(2)", desk.fault(2), -1);
        check.due(text + " fault(-1)", desk.fault(-1), -1);
        check.due(text + " count(2)", desk.count(2), 0);
    }

    private static void faults() {
        String whole = "T?G+F;FG;TF;son.";
        for (int n = 0; n < whole.length(); n++) {
            wrong(whole.substring(0, n), 1, n);
        }
        wrong(";G;G;-.", 1, 0);
        wrong("?G;G;G;-.", 1, 0);
        wrong("G??;G;G;-.", 1, 2);
        wrong("G*+;G;G;-.", 1, 2);
        wrong("G F;G;G;-.", 1, 1);
        wrong("g;G;G;-.", 1, 0);
        wrong("G;;G;-.", 1, 2);
        wrong("G;G;;-.", 1, 4);
        wrong("G;G?;G;-.", 1, 3);
        wrong("G;Gx;G;-.", 1, 3);
        wrong("G;G;G;.", 1, 6);
        wrong("G;G;G;A.", 1, 6);
        wrong("G;G;G;--.", 1, 7);
        wrong("G;G;G;-a.", 1, 7);
        wrong("G;G;G;a-.", 1, 7);
        wrong("G;G;G;-.;", 1, 8);
        wrong("G;G;G;-..", 1, 8);
        wrong("G;G;G;abcdefA.", 1, 12);
        wrong("G;G;G;abcdefg.", 2, 12);
        wrong("GGGGGGGGG;G;G;-.", 2, 8);
        wrong("G?G*G+GGGG*G?G;G;G;-.", 2, 13);
        wrong("GGGGGGGGx;G;G;-.", 1, 8);
        wrong("GGGGGGGG??;G;G;-.", 1, 9);
        wrong("G;GG;G;-.", 3, 3);
        wrong("G;GFTG;G;-.", 3, 5);
        wrong("G;G;TPT;-.", 3, 6);
        wrong("G;TGPQFMIT;G;-.", 3, 9);
        wrong("G;TGPQFMI;TGPQFMII;-.", 3, 17);
        wrong("G;GG;", 3, 3);
        wrong("G;G;G;-" + (char) 174, 1, 7);
        wrong("" + (char) 255, 1, 0);
    }

    private static void faultOfTheLatest() {
        NameDesk desk = new NameDesk();
        Check.shape(desk, 0, "G;GG");
        desk.shape(6, 0);
        desk.shape(0, 99);
        check.due("-2 leaves the FAULT", desk.fault(0), 3);
        check.due("-2 leaves the place", desk.fault(1), 3);
        Check.shape(desk, 1, "G;G;G;-.");
        check.due("no FAULT now", desk.fault(0), 0);
        check.due("no place now", desk.fault(1), -1);
    }

    private static void faultLeavesTheOldShape() {
        NameDesk desk = new NameDesk();
        Check.shape(desk, 2, "G+F;FG;F;son.");
        Check.name(desk, 2, "Ann Lee");
        check.due("a FAULT", Check.shape(desk, 2, "F;F;F;son"), -1);
        check.due("READINGS by the old SHAPE", Check.row(desk, 0, 0), "GF");
        check.due("KEY by the old SHAPE", Check.line(desk, 0, 2), "lee ann");
        check.due("count(2)", desk.count(2), 1);
        check.due("a new SHAPE", Check.shape(desk, 2, "F+;F;F;-."), 1);
        check.due("READINGS by the new SHAPE", Check.row(desk, 0, 0), "FF");
        check.due("KEY by the new SHAPE", Check.line(desk, 0, 2), "ann lee");
    }

    private static void counts() {
        NameDesk desk = new NameDesk();
        for (int land = 0; land < 6; land++) {
            Check.shape(desk, land, "G;G;G;-.");
            Check.shape(desk, land, "F;F;F;-.");
            check.due("count(2)", desk.count(2), land + 1);
        }
        Check.know(desk, 0, 1, "A");
        Check.know(desk, 0, 4, "A");
        Check.name(desk, 0, "A");
        check.due("count(0)", desk.count(0), 2);
        check.due("count(1)", desk.count(1), 1);
        check.due("count(3)", desk.count(3), -1);
        check.due("count(-1)", desk.count(-1), -1);
    }
}
