/** Promises 14 (agree), 15 (father). */
public final class KinTest {
    private static final Check check = new Check("KinTest");

    public static void main(String[] args) {
        agree();
        agreeNone();
        father();
        fatherNone();
        check.end();
    }

    private static int agree(String one, String other) {
        NameDesk desk = new NameDesk();
        Check.shape(desk, 0, "T?I*G*I*P?F;F;F;-.");
        Check.know(desk, 0, 0, "dr");
        Check.know(desk, 0, 2, "von");
        Check.know(desk, 0, 1, "jon");
        Check.name(desk, 0, one);
        Check.name(desk, 0, other);
        int answer = desk.agree(0, 1);
        check.due("both ways", desk.agree(1, 0), answer);
        check.due("with itself", desk.agree(0, 0), 1);
        return answer;
    }

    private static void agree() {
        check.due("alike", agree("Jon Roe", "j'on ROE."), 1);
        check.due("another F", agree("Jon Roe", "Jon Row"), 0);
        check.due("a longer F", agree("Jon Roe", "Jon Roes"), 0);
        check.due("another G", agree("Jon Roe", "Jan Roe"), 0);
        check.due("a longer G", agree("Jo Roe", "Jon Roe"), 0);
        check.due("an initial", agree("J. Roe", "Jon Roe"), 1);
        check.due("another initial", agree("K. Roe", "Jon Roe"), 0);
        check.due("initials", agree("J. K. Roe", "Jon Kim Roe"), 1);
        check.due("the second another", agree("J. K. Roe", "Jon Lim Roe"), 0);
        check.due("two initials, unlike", agree("J. Roe", "K. Roe"), 0);
        check.due("as far as both have some", agree("Jon Roe", "Jon Kim Roe"), 1);
        check.due("none at all", agree("Roe", "Jon Kim Roe"), 1);
        check.due("titles and particles aside", agree("Dr. Jon von Roe", "Jon Roe"), 1);
        check.due("the last of seven another", agree("Jon a b c d e f Roe", "Jon a b c d e g Roe"), 0);
        check.due("seven alike", agree("Jon a b c d e f Roe", "J. a b c d e fa Roe"), 1);
        check.due("initials among given", agree("Jon K. Roe", "J. Kim Roe"), 1);
    }

    private static void agreeOfEight(String shape, String eighth, int due) {
        NameDesk desk = new NameDesk();
        Check.shape(desk, 0, shape);
        Check.name(desk, 0, "a b c d e f g ha");
        Check.name(desk, 0, "a b c d e f g " + eighth);
        check.due(shape + eighth, desk.agree(0, 1), due);
    }

    private static void agreeNone() {
        agreeOfEight("G+;G;G;-.", "hb", 0);
        agreeOfEight("G+;G;G;-.", "h", 1);
        agreeOfEight("F+;G;G;-.", "hb", 0);
        agreeOfEight("F+;G;G;-.", "h", 0);
        agreeOfEight("F+;G;G;-.", "Ha.", 1);
        NameDesk desk = new NameDesk();
        Check.shape(desk, 0, "G?F+;F;F;-.");
        Check.shape(desk, 1, "G?F+;F;F;-.");
        Check.know(desk, 0, 1, "Jon");
        Check.know(desk, 1, 1, "Jon");
        Check.name(desk, 0, "Jon Roe");
        Check.name(desk, 1, "Jon Roe");
        Check.name(desk, 2, "Jon Roe");
        Check.name(desk, 0, "Jon Roe Poe");
        Check.name(desk, 0, "Jon Poe Roe");
        Check.know(desk, 0, 4, "Roe");
        check.due("of two LANDS", desk.agree(0, 1), 0);
        check.due("one without READING", desk.agree(0, 2), -1);
        check.due("one without READING", desk.agree(2, 0), -1);
        check.due("the same without READING", desk.agree(2, 2), -1);
        check.due("no such NAME", desk.agree(0, 5), -1);
        check.due("no such NAME", desk.agree(-1, 0), -1);
        check.due("more F words", desk.agree(0, 3), 0);
        check.due("fewer F words", desk.agree(3, 0), 0);
        check.due("F words in another order", desk.agree(3, 4), 0);
        check.due("a name with itself", desk.agree(3, 3), 1);
    }

    private static NameDesk household() {
        NameDesk desk = new NameDesk();
        Check.shape(desk, 0, "G+M*;G;G;sson.");
        Check.know(desk, 0, 1, "Jon");
        Check.know(desk, 0, 1, "Ol");
        return desk;
    }

    private static void father() {
        NameDesk desk = household();
        Check.name(desk, 0, "Karl Jonsson");
        Check.name(desk, 0, "J'on Ol");
        Check.name(desk, 0, "Ol Jon");
        Check.name(desk, 0, "Karl Olsson Jonsson");
        Check.name(desk, 0, "Jons");
        Check.name(desk, 0, "Jo");
        check.due("M is read", Check.row(desk, 0, 0), "GM");
        check.due("of Jon", desk.father(0, 1), 1);
        check.due("not of Ol", desk.father(0, 2), 0);
        check.due("two M are read", Check.row(desk, 3, 0), "GMM");
        check.due("the first M counts", desk.father(3, 2), 1);
        check.due("the second does not", desk.father(3, 1), 0);
        check.due("a longer G", desk.father(0, 4), 0);
        check.due("a shorter G", desk.father(0, 5), 0);
        check.due("a G of a NAME with M", desk.father(0, 3), 0);
    }

    private static void fatherNone() {
        NameDesk desk = household();
        Check.shape(desk, 1, "G+M*;G;G;sson.");
        Check.shape(desk, 2, "F*M;G;G;sson.");
        Check.know(desk, 2, 1, "Jon");
        Check.name(desk, 0, "Karl Jonsson");
        Check.name(desk, 1, "Jon");
        Check.name(desk, 0, "Jon");
        Check.name(desk, 2, "Karl Jonsson");
        Check.name(desk, 2, "Jonsson");
        Check.name(desk, 3, "Karl Jonsson");
        Check.name(desk, 3, "Jon");
        check.due("not of one LAND", desk.father(0, 1), -1);
        check.due("the same", desk.father(0, 0), -1);
        check.due("no M", desk.father(2, 0), -1);
        check.due("no G", desk.father(3, 4), -1);
        check.due("no SHAPE", desk.father(5, 6), -1);
        check.due("no such NAME", desk.father(0, 7), -1);
        check.due("no such NAME", desk.father(7, 0), -1);
        check.due("no such NAME", desk.father(-1, -1), -1);
        check.due("a father", desk.father(0, 2), 1);
    }
}
