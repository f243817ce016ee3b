/** Promises 8 (readings), 9 (cost), 10 (kind). */
public final class ReadingsTest {
    private static final Check check = new Check("ReadingsTest");

    public static void main(String[] args) {
        costsOfKinds();
        costsOfMade();
        slots();
        orderOfReadings();
        bookOfTheLand();
        greatestCost();
        noneSuch();
        check.end();
    }

    /** All READINGS as "row:cost", in order. */
    private static String all(NameDesk desk, int name) {
        StringBuilder text = new StringBuilder();
        for (int r = 0; desk.cost(name, r) != -1; r++) {
            text.append(r == 0 ? "" : " ").append(Check.row(desk, name, r)).append(':').append(desk.cost(name, r));
        }
        return text.toString();
    }

    private static void costsOfKinds() {
        NameDesk desk = new NameDesk();
        Check.shape(desk, 0, "T?G?P?Q?F?M?I?;G;G;son.");
        Check.name(desk, 0, "Ab");
        check.due("unknown", all(desk, 0), "G:2 F:2");
        Check.know(desk, 0, 4, "ab");
        check.due("known F", all(desk, 0), "F:0 G:2");
        Check.know(desk, 0, 0, "AB");
        check.due("known T, F", all(desk, 0), "T:0 F:0 G:5");
        Check.forget(desk, 0, 0, "ab");
        Check.know(desk, 0, 2, "a-b");
        check.due("known P, F", all(desk, 0), "P:0 F:0 G:5");
        Check.forget(desk, 0, 2, "ab");
        Check.know(desk, 0, 3, "a'b");
        check.due("known Q, F", all(desk, 0), "Q:0 F:0 G:5");
        Check.know(desk, 0, 1, "Ab.");
        check.due("known G, Q, F", all(desk, 0), "G:0 Q:0 F:0");
        Check.forget(desk, 0, 4, "Ab.");
        check.due("known G, Q", all(desk, 0), "G:0 Q:0 F:5");
        Check.name(desk, 0, "X.");
        check.due("one letter", all(desk, 1), "I:0 G:2 F:2");
        Check.name(desk, 0, "X'-");
        check.due("one letter FOLDED", all(desk, 2), "I:0 G:2 F:2");
        Check.know(desk, 0, 0, "x");
        check.due("one letter, title", all(desk, 1), "T:0 I:0 G:5 F:5");
    }

    private static void costsOfMade() {
        NameDesk desk = new NameDesk();
        Check.shape(desk, 0, "F?M?;F;F;son.");
        Check.name(desk, 0, "Jon-Son");
        check.due("made", all(desk, 0), "F:2 M:3");
        Check.know(desk, 0, 4, "Jon");
        check.due("known as another kind", all(desk, 0), "F:2 M:3");
        Check.know(desk, 0, 1, "J'on");
        check.due("known as given", all(desk, 0), "M:0 F:2");
        Check.name(desk, 0, "Son");
        check.due("the ending alone", all(desk, 1), "F:2");
        Check.name(desk, 0, "xson");
        check.due("one letter more", all(desk, 2), "F:2 M:3");
        Check.name(desk, 0, "Jonsen");
        check.due("another ending", all(desk, 3), "F:2");
        Check.shape(desk, 0, "F?M?;F;F;-.");
        check.due("without ENDING", all(desk, 0), "F:2");
        Check.shape(desk, 0, "F?M?;F;F;n.");
        check.due("another ENDING", all(desk, 3), "F:2 M:3");
        Check.know(desk, 0, 1, "jonse");
        check.due("known with it", all(desk, 3), "M:0 F:2");
        Check.shape(desk, 0, "F?M?;F;F;abcdef.");
        Check.name(desk, 0, "abcdef");
        Check.name(desk, 0, "X-abcdef");
        Check.name(desk, 0, "X-bbcdef");
        check.due("the longest ENDING alone", all(desk, 4), "F:2");
        check.due("the longest ENDING", all(desk, 5), "F:2 M:3");
        check.due("unlike in its first letter", all(desk, 6), "F:2");
    }

    private static void rows(String shape, String name, String rows) {
        NameDesk desk = new NameDesk();
        Check.shape(desk, 0, shape + ";G;G;-.");
        Check.name(desk, 0, name);
        check.due(shape + " of " + name, all(desk, 0), rows);
        check.due(shape + " at most", desk.readings(0, Integer.MAX_VALUE), rows.isEmpty() ? 0 : rows.split(" ").length);
    }

    private static void slots() {
        rows("G", "aa", "G:2");
        rows("G", "aa bb", "");
        rows("GF", "aa", "");
        rows("G?F", "aa", "F:2");
        rows("G?F", "aa bb", "GF:4");
        rows("G?F", "aa bb cc", "");
        rows("G*F", "aa bb cc", "GGF:6");
        rows("G*F", "aa", "F:2");
        rows("G+F", "aa", "");
        rows("G+F", "aa bb", "GF:4");
        rows("G+F+", "aa bb cc", "GGF:6 GFF:6");
        rows("G*G*", "aa bb", "GG:4");
        rows("GG?G*", "aa bb cc", "GGG:6");
        rows("G?G?G?", "aa bb cc dd", "");
        rows("G*FG*", "aa bb cc", "GGF:6 GFG:6 FGG:6");
        rows("F?G?F?", "aa bb", "GF:4 FG:4 FF:4");
        rows("I+F", "a bb", "IF:2");
        rows("I+F", "aa bb", "");
        rows("TF", "dr bb", "");
        rows("GGGGGGGG", "a b c d e f g h", "GGGGGGGG:16");
        rows("GGGGGGGG", "a b c d e f g", "");
    }

    private static void orderOfReadings() {
        NameDesk desk = new NameDesk();
        Check.shape(desk, 0, "I*T?G*P*F+;F;F;-.");
        Check.know(desk, 0, 2, "de");
        Check.name(desk, 0, "A de B");
        check.due("by COST, then by KINDS", all(desk, 0), "IPF:2 GPF:4 IGF:7 IFF:7 GGF:9 GFF:9 FFF:9");
        int[] most = {0, 1, 2, 3, 4, 6, 7, 8, 9, 40};
        int[] many = {0, 0, 1, 1, 2, 2, 4, 4, 7, 7};
        for (int i = 0; i < most.length; i++) {
            check.due("readings(0, " + most[i] + ")", desk.readings(0, most[i]), many[i]);
        }
    }

    private static void bookOfTheLand() {
        NameDesk desk = new NameDesk();
        Check.shape(desk, 0, "T?F;F;F;-.");
        Check.shape(desk, 1, "T?F;F;F;-.");
        Check.know(desk, 1, 0, "Sir");
        Check.name(desk, 0, "Sir Foo");
        Check.name(desk, 1, "Sir Foo");
        check.due("another LAND's entry", all(desk, 0), "");
        check.due("its own entry", all(desk, 1), "TF:2");
        Check.name(desk, 2, "Sir Foo");
        check.due("no SHAPE", all(desk, 2), "");
        check.due("no SHAPE", desk.readings(2, 40), 0);
        Check.shape(desk, 2, "G+;G;G;-.");
        check.due("a SHAPE now", all(desk, 2), "GG:4");
    }

    private static void greatestCost() {
        NameDesk desk = new NameDesk();
        Check.shape(desk, 0, "G*F;F;F;-.");
        Check.know(desk, 0, 2, "de");
        Check.name(desk, 0, "de de de de de de de de");
        Check.name(desk, 0, "de de de de de de de De.");
        for (int turn = 0; turn < 4; turn++) {
            check.due("cost", desk.cost(turn % 2, 0), 40);
            check.due("readings(.., 39)", desk.readings(turn % 2, 39), 0);
            check.due("readings(.., 40)", desk.readings(turn % 2, 40), 1);
            check.due("readings(.., 41)", desk.readings(turn % 2, 41), 1);
        }
    }

    private static void noneSuch() {
        NameDesk desk = new NameDesk();
        Check.shape(desk, 0, "G+;G;G;-.");
        Check.name(desk, 0, "aa bb");
        check.due("readings below 0", desk.readings(0, -1), -1);
        check.due("readings, no NAME", desk.readings(1, 5), -1);
        check.due("readings, no NAME", desk.readings(-1, 5), -1);
        check.due("readings, cost 0", desk.readings(0, 0), 0);
        check.due("cost, no NAME", desk.cost(1, 0), -1);
        check.due("cost, no NAME", desk.cost(Integer.MIN_VALUE, 0), -1);
        check.due("cost, r 1", desk.cost(0, 1), -1);
        check.due("cost, r -1", desk.cost(0, -1), -1);
        check.due("kind, no NAME", desk.kind(30, 0, 0), -1);
        check.due("kind, r 1", desk.kind(0, 1, 0), -1);
        check.due("kind, r -1", desk.kind(0, -1, 0), -1);
        check.due("kind, w 2", desk.kind(0, 0, 2), -1);
        check.due("kind, w -1", desk.kind(0, 0, -1), -1);
        check.due("kind, greatest w", desk.kind(0, 0, Integer.MAX_VALUE), -1);
        check.due("kind", desk.kind(0, 0, 1), 1);
    }
}
