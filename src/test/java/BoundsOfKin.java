/** Promises 14 (agree), 15 (father). */
final class BoundsOfKin {
    private static final String TWENTY = "abcdefghijklmnopqrst";
    private final Bounds bounds;

    BoundsOfKin(Bounds bounds) {
        this.bounds = bounds;
    }

    void run() {
        bounds.sentence(14, "AGREE of two NAMES: both have a READING", this::bothRead);
        bounds.sentence(14, "are of one LAND", this::oneLand);
        bounds.sentence(14, "have as many F words, FOLDED alike in order", this::familyAlike);
        bounds.sentence(14, "and of G and I words (in order, together) each of the one and the one of the other at that place",
                this::together);
        bounds.sentence(14, "as far as both have some", this::asFarAsBoth);
        bounds.sentence(14, "are FOLDED alike", this::givenAlike);
        bounds.sentence(14, "or one of them is one letter with which the other begins.", this::oneLetter);
        bounds.sentence(14, "AGREE: 1, 0", this::oneOrNought);
        bounds.sentence(14, "NONE: no such NAMES", this::agreeNoNames);
        bounds.sentence(14, "or one without READING.", this::agreeNoReading);
        bounds.sentence(15, "FATHER: of a NAME with an M in its READING", this::madeInReading);
        bounds.sentence(15, "and another NAME of its LAND with a G in it:", this::givenInReading);
        bounds.sentence(15, "whether the first M's FOLDED is the first G's FOLDED with ENDING behind it.", this::firsts);
        bounds.sentence(15, "FATHER: 1, 0", this::fatherOneOrNought);
        bounds.sentence(15, "NONE: no such NAMES", this::fatherNoNames);
        bounds.sentence(15, "the same one", this::fatherSame);
        bounds.sentence(15, "not of one LAND", this::fatherLands);
        bounds.sentence(15, "or no M, no G.", this::fatherNoKind);
    }

    private void agrees(String shape, String one, String other, int due) {
        Desk desk = Desk.of(shape, one, other);
        bounds.due(shape + " " + one + ", " + other, desk.agree(0, 1), due);
        bounds.due(shape + " " + other + ", " + one, desk.agree(1, 0), due);
        bounds.due("the same one", desk.agree(0, 0), 1);
    }

    private void bothRead() {
        Desk desk = Desk.of("GF;G;G;-.", "Ann Lee", "Ann Lee", "Ann", "Ann");
        bounds.due("both", desk.agree(0, 1), 1);
        bounds.due("the first alone", desk.agree(0, 2), -1);
        bounds.due("the second alone", desk.agree(2, 0), -1);
        bounds.due("none", desk.agree(2, 3), -1);
        desk.shape(0, "G;G;G;-.");
        bounds.due("both no longer", desk.agree(0, 1), -1);
        bounds.due("both now", desk.agree(2, 3), 1);
    }

    private void oneLand() {
        Desk desk = new Desk();
        for (int land = 0; land < 6; land++) {
            desk.shape(land, "GF;G;G;-.");
            desk.name(land, "Ann Lee");
            desk.name(land, "Ann Lee");
        }
        for (int a = 0; a < 12; a++) {
            for (int b = 0; b < 12; b++) {
                bounds.due("agree(" + a + ", " + b + ")", desk.agree(a, b), a / 2 == b / 2 ? 1 : 0);
            }
        }
    }

    private void familyAlike() {
        String shape = "F+;F;F;-.";
        agrees(shape, "Lee", "L-EE.", 1);
        agrees(shape, "Lee", "Leo", 0);
        agrees(shape, "Lee", "Le", 0);
        agrees(shape, "Lee", "Lees", 0);
        agrees(shape, "Lee", "L", 0);
        agrees(shape, "Lee", "Lee Lee", 0);
        agrees(shape, "Lee Dam", "Lee Dam", 1);
        agrees(shape, "Lee Dam", "Dam Lee", 0);
        agrees(shape, "Lee Dam", "Lee Dame", 0);
        agrees(shape, "a b c d e f g h", "a b c d e f g h", 1);
        agrees(shape, "a b c d e f g h", "a b c d e f g", 0);
        agrees(shape, "a b c d e f g h", "a b c d e f g i", 0);
        agrees(shape, "a b c d e f g h", "b b c d e f g h", 0);
        agrees(shape, TWENTY, TWENTY + ".", 1);
        agrees(shape, TWENTY, TWENTY.substring(0, 19) + "z", 0);
        agrees("G+;F;F;-.", "Ann", "Ann", 1);
        agrees("GF?;F;F;-.", "Ann", "Ann Lee", 0);
    }

    private void together() {
        String shape = "I?G*I*G*F;F;F;-.";
        agrees(shape, "A. Bob C. Lee", "Ann B. Cid Lee", 1);
        agrees(shape, "A. Bob C. Lee", "Ann C. Bob Lee", 0);
        agrees(shape, "A. Bob Lee", "Bob A. Lee", 0);
        agrees(shape, "A. B. Lee", "A. B. Lee", 1);
        agrees(shape, "A. B. Lee", "B. A. Lee", 0);
        agrees("G+;F;F;-.", "a b c d e f g ha", "a b c d e f g ha", 1);
        agrees("G+;F;F;-.", "a b c d e f g ha", "a b c d e f g hb", 0);
        agrees("G+;F;F;-.", "aa b c d e f g h", "ab b c d e f g h", 0);
        Desk desk = Desk.of("T?G+P?Q?F;F;F;-.", "Dr Ann Lee", "Ann von Lee", "Ann de Lee", "Ann von de Lee");
        desk.know(0, 0, "dr");
        desk.know(0, 2, "von");
        desk.know(0, 3, "de");
        for (int a = 0; a < 4; a++) {
            for (int b = 0; b < 4; b++) {
                bounds.due("T, P, Q aside", desk.agree(a, b), 1);
            }
        }
        Desk apart = Desk.of("T*G?P?G*F;F;F;-.", "Dr Dr Ann Bob Lee", "Ann von Bob Lee", "Ann Bob Lee", "Dr Ann von Cid Lee");
        apart.know(0, 0, "dr");
        apart.know(0, 2, "von");
        for (int a = 0; a < 4; a++) {
            for (int b = 0; b < 4; b++) {
                bounds.due("at other WORDS, " + a + ", " + b, apart.agree(a, b), (a == 3) == (b == 3) ? 1 : 0);
            }
        }
        Desk made = Desk.of("GM?F;F;F;son.", "Ann Bobson Lee", "Ann Cidson Lee", "Ann Lee");
        bounds.due("M aside", made.agree(0, 1) + made.agree(0, 2), 2);
    }

    private void asFarAsBoth() {
        String shape = "G*F;F;F;-.";
        agrees(shape, "Lee", "Lee", 1);
        agrees(shape, "Lee", "Ann Lee", 1);
        agrees(shape, "Ann Lee", "Ann Bob Lee", 1);
        agrees(shape, "Ann Lee", "Bob Ann Lee", 0);
        agrees(shape, "Ann Bob Lee", "Ann Cid Lee", 0);
        agrees(shape, "aa bb cc dd ee ff gg Lee", "aa bb cc dd ee ff gg Lee", 1);
        agrees(shape, "aa bb cc dd ee ff gg Lee", "aa bb cc dd ee ff Lee", 1);
        agrees(shape, "aa bb cc dd ee ff gg Lee", "aa bb cc dd ee gg Lee", 0);
        agrees(shape, "aa bb cc dd ee ff gg Lee", "Lee", 1);
    }

    private void givenAlike() {
        String shape = "G;G;G;-.";
        agrees(shape, "Ann", "A'n-N.", 1);
        agrees(shape, "Ann", "Ana", 0);
        agrees(shape, "Ann", "Anna", 0);
        agrees(shape, "Ann", "An", 0);
        agrees(shape, "Ann", "Bnn", 0);
        agrees(shape, TWENTY, TWENTY, 1);
        agrees(shape, TWENTY, TWENTY.substring(0, 19), 0);
    }

    private void oneLetter() {
        for (String shape : new String[] {"G;G;G;-.", "G?I?;G;G;-."}) {
            agrees(shape, "Ann", "A", 1);
            agrees(shape, "Ann", "A.", 1);
            agrees(shape, "Ann", "a-'", 1);
            agrees(shape, "Ann", "N", 0);
            agrees(shape, "Ann", "B", 0);
            agrees(shape, "Ann", "An", 0);
            agrees(shape, "A", "a", 1);
            agrees(shape, "A", "B", 0);
            agrees(shape, TWENTY, "a", 1);
            agrees(shape, TWENTY, "b", 0);
        }
    }

    private void oneOrNought() {
        Desk desk = Desk.of("G*F;F;F;-.", "Ann Lee", "A Lee", "Bob Lee", "Lee");
        int[][] due = {{1, 1, 0, 1}, {1, 1, 0, 1}, {0, 0, 1, 1}, {1, 1, 1, 1}};
        for (int a = 0; a < 4; a++) {
            for (int b = 0; b < 4; b++) {
                bounds.due("agree(" + a + ", " + b + ")", desk.agree(a, b), due[a][b]);
            }
        }
    }

    private void agreeNoNames() {
        bounds.due("no NAMES", new Desk().agree(0, 0), -1);
        for (int other : new int[] {-1, 6, 29, 30, Bounds.LEAST, Bounds.MOST}) {
            bounds.refused("agree(0, " + other + ")", -1, "Ann", desk -> desk.agree(0, other));
            bounds.refused("agree(" + other + ", 0)", -1, "Ann", desk -> desk.agree(other, 0));
            bounds.refused("agree(" + other + ", " + other + ")", -1, "Ann", desk -> desk.agree(other, other));
        }
        Desk desk = Desk.of("G;G;G;-.", "Ann");
        bounds.due("agree(0, 0)", desk.agree(0, 0), 1);
        bounds.due("agree(0, 1)", desk.agree(0, 1), -1);
        bounds.due("agree(1, 0)", desk.agree(1, 0), -1);
    }

    private void agreeNoReading() {
        bounds.refused("agree(0, 4)", -1, "Ann", desk -> desk.agree(0, 4));
        bounds.refused("agree(4, 0)", -1, "Ann", desk -> desk.agree(4, 0));
        bounds.refused("agree(4, 4)", -1, "Ann", desk -> desk.agree(4, 4));
        bounds.refused("agree(4, 5)", -1, "Ann", desk -> desk.agree(4, 5));
        Desk desk = new Desk();
        Scene.build(desk);
        desk.shape(2, "G;G;G;-.");
        bounds.due("with READINGS", desk.agree(4, 5), 0);
        bounds.due("with itself", desk.agree(4, 4), 1);
    }

    private static Desk kin() {
        Desk desk = Desk.of("G*M*F*;G;G;son.", "Karl Jonson", "Jon Lee", "Karl Lee", "Jonson", "Lee");
        desk.know(0, 1, "Jon");
        desk.know(0, 1, "Karl");
        desk.know(0, 4, "Lee");
        return desk;
    }

    private void madeInReading() {
        Desk desk = kin();
        bounds.due("READINGS", desk.row(0, 0) + " " + desk.row(2, 0) + " " + desk.row(3, 0), "GM GF M");
        bounds.due("with an M", desk.father(0, 1), 1);
        bounds.due("an M alone", desk.father(3, 1), 1);
        bounds.due("without M", desk.father(2, 1), -1);
        desk.know(0, 4, "Jonson");
        desk.forget(0, 1, "Jon");
        bounds.due("its READING has F now", desk.row(0, 0), "GF");
        bounds.due("M is in another READING alone", desk.father(0, 1), -1);
        desk.shape(0, "G*M*F*;G;G;-.");
        bounds.due("without ENDING", desk.father(3, 1), -1);
    }

    private void givenInReading() {
        Desk desk = kin();
        bounds.due("READINGS", desk.row(1, 0) + " " + desk.row(4, 0), "GF F");
        bounds.due("with a G", desk.father(0, 1), 1);
        bounds.due("with another G", desk.father(0, 2), 0);
        bounds.due("without G", desk.father(0, 4), -1);
        bounds.due("with an M alone", desk.father(0, 3), -1);
        bounds.due("a G beside an M", desk.father(3, 0), 0);
        Desk lands = kin();
        lands.shape(1, "G*M*F*;G;G;son.");
        lands.name(1, "Jon Lee");
        bounds.due("of another LAND", lands.father(0, 5), -1);
    }

    private void firsts() {
        Desk desk = Desk.of("G*M*;G;G;son.", "Ab-Son Cdson", "A'b Cd", "Cd Ab", "Abs", "A", "Abson", "Ab", "Abc");
        for (String given : new String[] {"Ab", "Cd", "A", "Abs", "Abc"}) {
            desk.know(0, 1, given);
        }
        bounds.due("READINGS", desk.row(0, 0) + " " + desk.row(1, 0), "MM GG");
        bounds.due("the first of both", desk.father(0, 1), 1);
        bounds.due("the second G", desk.father(0, 2), 0);
        bounds.due("one letter more", desk.father(0, 3), 0);
        bounds.due("one letter less", desk.father(0, 4), 0);
        bounds.due("a G alone", desk.father(0, 6), 1);
        bounds.due("another letter more", desk.father(0, 7), 0);
        bounds.due("an M alone", desk.father(5, 6), 1);
        Desk one = Desk.of("G?M?;G;G;n.", "Nn", "N", "Nnn", "M");
        one.know(0, 1, "n");
        one.know(0, 1, "m");
        one.know(0, 1, "nn");
        bounds.due("READINGS", one.row(0, 0) + one.row(1, 0) + one.row(2, 0), "GGM");
        bounds.due("Nn of N is read as G", one.father(0, 1), -1);
        bounds.due("Nnn of Nn", one.father(2, 0), 1);
        bounds.due("Nnn of N", one.father(2, 1), 0);
        bounds.due("Nnn of M", one.father(2, 3), 0);
        Desk longest = Desk.of("G?M?;G;G;onsson.", "abcdefghijklmnonsson", "Abcdefghijklmn", "Abcdefghijklm");
        longest.know(0, 1, "abcdefghijklmn");
        bounds.due("the longest", longest.father(0, 1), 1);
        bounds.due("one letter less", longest.father(0, 2), 0);
    }

    private void fatherOneOrNought() {
        Desk desk = kin();
        bounds.due("1", desk.father(0, 1), 1);
        bounds.due("0", desk.father(0, 2), 0);
        bounds.due("the other way", desk.father(1, 0), -1);
        bounds.due("0 at first", desk.father(3, 0), 0);
    }

    private void fatherNoNames() {
        bounds.due("no NAMES", new Desk().father(0, 1), -1);
        for (int other : new int[] {-1, 6, 29, 30, Bounds.LEAST, Bounds.MOST}) {
            bounds.refused("father(2, " + other + ")", -1, "Ann", desk -> desk.father(2, other));
            bounds.refused("father(" + other + ", 3)", -1, "Ann", desk -> desk.father(other, 3));
            bounds.refused("father(" + other + ", " + other + ")", -1, "Ann", desk -> desk.father(other, other));
        }
        Desk desk = new Desk();
        Scene.build(desk);
        bounds.due("father(2, 3)", desk.father(2, 3), 1);
    }

    private void fatherSame() {
        Desk desk = Desk.of("GM;G;G;son.", "Jon Jonson", "Jon Jonson");
        bounds.due("the same", desk.father(0, 0), -1);
        bounds.due("another that is alike", desk.father(0, 1), 1);
        bounds.due("the other way", desk.father(1, 0), 1);
        bounds.refused("father(2, 2)", -1, "Ann", same -> same.father(2, 2));
    }

    private void fatherLands() {
        Desk desk = new Desk();
        for (int land = 0; land < 6; land++) {
            desk.shape(land, "G?M?;G;G;son.");
            desk.know(land, 1, "Jon");
            desk.name(land, "Jonson");
            desk.name(land, "Jon");
        }
        for (int land = 0; land < 6; land++) {
            for (int other = 0; other < 6; other++) {
                bounds.due("LANDS " + land + ", " + other, desk.father(2 * land, 2 * other + 1), land == other ? 1 : -1);
            }
        }
        bounds.refused("father(2, 0)", -1, "Ann", other -> other.father(2, 0));
    }

    private void fatherNoKind() {
        bounds.refused("no M", -1, "Ann", desk -> desk.father(3, 2));
        bounds.refused("no SHAPE", -1, "Ann", desk -> desk.father(4, 5));
        Desk desk = kin();
        bounds.due("no M", desk.father(1, 2), -1);
        bounds.due("no G", desk.father(0, 3), -1);
        bounds.due("neither", desk.father(4, 3), -1);
        desk.shape(0, "M;G;G;son.");
        bounds.due("a father without READING", desk.father(3, 1), -1);
        bounds.due("a NAME without READING", desk.father(0, 3), -1);
        desk.shape(0, "G?M?;G;G;son.");
        desk.name(0, "Jon");
        bounds.due("both", desk.father(3, 5), 1);
    }
}
