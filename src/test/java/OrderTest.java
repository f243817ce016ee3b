/** Promises 11 (look), 12 (order), 13 (sign). */
public final class OrderTest {
    private static final Check check = new Check("OrderTest");

    public static void main(String[] args) {
        looks();
        lookThrows();
        keysAndCalls();
        order();
        orderChanges();
        signs();
        check.end();
    }

    private static void looks() {
        NameDesk desk = new NameDesk();
        Check.shape(desk, 3, "T?G+P*Q*F;QFG;TF;-.");
        Check.know(desk, 3, 0, "Dr");
        Check.know(desk, 3, 2, "von");
        Check.know(desk, 3, 3, "De");
        Check.name(desk, 3, "Dr. Jo-Ann von De O'Hara");
        int[] due = {3, 5, 0, 3, 10, 21};
        for (int what = 0; what < due.length; what++) {
            check.due("look(0, " + what + ")", Check.look(desk, 0, what), due[what]);
        }
        check.due("KEY", Check.line(desk, 0, 2), "de ohara joann");
        check.due("CALL", Check.line(desk, 0, 0), "Dr. O'Hara");
        check.due("PUT", Check.line(desk, 0, 1), "dr joann von de ohara");
    }

    private static void lookThrows() {
        NameDesk desk = new NameDesk();
        check.due("no NAME at all", Check.look(desk, 0, 0), Check.NO_NAME);
        Check.name(desk, 0, "A");
        check.due("look(1, 0)", Check.look(desk, 1, 0), Check.NO_NAME);
        check.due("look(-1, 0)", Check.look(desk, -1, 0), Check.NO_NAME);
        check.due("look(-1, 9)", Check.look(desk, -1, 9), Check.NO_NAME);
        check.due("look(0, 6)", Check.look(desk, 0, 6), Check.NO_WHAT);
        check.due("look(0, -1)", Check.look(desk, 0, -1), Check.NO_WHAT);
        check.due("look(0, 3) without READING", Check.look(desk, 0, 3), 0);
        check.due("look(0, 4) without READING", Check.look(desk, 0, 4), 0);
        check.due("look(0, 5) without READING", Check.look(desk, 0, 5), 1);
    }

    private static void keysAndCalls() {
        NameDesk desk = new NameDesk();
        Check.shape(desk, 0, "G+F+;FG;GF;-.");
        Check.know(desk, 0, 1, "Bob");
        Check.know(desk, 0, 1, "Al");
        Check.know(desk, 0, 4, "Zed");
        Check.name(desk, 0, "Bob Al Zed Yo.");
        check.due("KEY in the order of SORT", Check.line(desk, 0, 2), "zed yo bob al");
        check.due("CALL in the order of CALL", Check.line(desk, 0, 0), "Bob Al Zed Yo.");
        check.due("WORDS in KEY", Check.look(desk, 0, 3), 4);
        String longest = "Abcdefghijklmnopqrst.";
        Check.name(desk, 0, longest + " " + longest);
        check.due("CALL of the longest", Check.line(desk, 1, 0), longest + " " + longest);
        Check.shape(desk, 0, "G+F+;T;PG;-.");
        check.due("an empty KEY", Check.line(desk, 0, 2), "");
        check.due("WORDS in KEY", Check.look(desk, 0, 3), 0);
        check.due("a CALL without P", Check.line(desk, 0, 0), "Bob Al");
        check.due("signs of CALL", Check.look(desk, 0, 4), 6);
    }

    private static String orderOf(NameDesk desk) {
        StringBuilder text = new StringBuilder();
        for (int k = 0; desk.order(k) != -1; k++) {
            text.append(k == 0 ? "" : " ").append(desk.order(k));
            check.due("place", Check.look(desk, desk.order(k), 2), k);
        }
        return text.toString();
    }

    private static void order() {
        NameDesk desk = new NameDesk();
        Check.shape(desk, 0, "G+;G;G;-.");
        Check.shape(desk, 1, "F+;F;F;-.");
        Check.shape(desk, 2, "F+;T;F;-.");
        Check.name(desk, 5, "Aa");
        Check.name(desk, 0, "Bcd");
        Check.name(desk, 0, "Bc de");
        Check.name(desk, 1, "Bc");
        Check.name(desk, 0, "B'c.");
        Check.name(desk, 4, "A");
        Check.name(desk, 2, "Zz");
        Check.name(desk, 0, "Bc d e");
        Check.name(desk, 1, "Abc zz");
        check.due("ORDER", orderOf(desk), "6 8 3 4 7 2 1 0 5");
        check.due("order(-1)", desk.order(-1), -1);
        check.due("order(9)", desk.order(9), -1);
        check.due("order(30)", desk.order(30), -1);
    }

    private static void orderChanges() {
        NameDesk desk = new NameDesk();
        Check.shape(desk, 0, "G+F;FG;F;-.");
        Check.name(desk, 0, "A Zed");
        Check.name(desk, 0, "B Young");
        Check.name(desk, 1, "C Xu");
        check.due("by F", orderOf(desk), "1 0 2");
        Check.shape(desk, 1, "G+F;FG;F;-.");
        check.due("with a SHAPE", orderOf(desk), "2 1 0");
        Check.shape(desk, 0, "G+F;GF;F;-.");
        check.due("by G", orderOf(desk), "0 1 2");
        Check.shape(desk, 0, "G+F?;FG;F;-.");
        check.due("all G", orderOf(desk), "0 1 2");
        check.due("its KEY", Check.line(desk, 0, 2), "a zed");
        Check.know(desk, 0, 4, "Zed");
        check.due("F known", orderOf(desk), "1 2 0");
        check.due("its KEY", Check.line(desk, 0, 2), "zed a");
        Check.forget(desk, 0, 4, "zed");
        check.due("F forgotten", orderOf(desk), "0 1 2");
        Check.name(desk, 0, "A B");
        check.due("a new NAME", orderOf(desk), "3 0 1 2");
    }

    private static void signs() {
        NameDesk desk = new NameDesk();
        Check.shape(desk, 0, "G+;G;G;-.");
        Check.name(desk, 0, "O'b Cd.");
        check.due("CALL", Check.line(desk, 0, 0), "O'b Cd.");
        check.due("PUT", Check.line(desk, 0, 1), "ob cd");
        check.due("KEY", Check.line(desk, 0, 2), "ob cd");
        check.due("sign(0, 0, -1)", desk.sign(0, 0, -1), -1);
        check.due("sign(0, 0, 7)", desk.sign(0, 0, 7), -1);
        check.due("sign(0, 1, 5)", desk.sign(0, 1, 5), -1);
        check.due("sign(0, 2, 5)", desk.sign(0, 2, 5), -1);
        check.due("sign(0, 3, 0)", desk.sign(0, 3, 0), -1);
        check.due("sign(0, -1, 0)", desk.sign(0, -1, 0), -1);
        check.due("sign(1, 0, 0)", desk.sign(1, 0, 0), -1);
        check.due("sign(-1, 1, 0)", desk.sign(-1, 1, 0), -1);
        check.due("greatest k", desk.sign(0, 0, Integer.MAX_VALUE), -1);
        Check.name(desk, 1, "No Shape");
        check.due("CALL without READING", desk.sign(1, 0, 0), -1);
        check.due("KEY without READING", desk.sign(1, 2, 0), -1);
        check.due("PUT without READING", Check.line(desk, 1, 1), "no shape");
    }
}
