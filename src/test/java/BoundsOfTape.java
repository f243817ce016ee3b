/** Promises 1 (a new object), 2 (feed), 18 (count). */
final class BoundsOfTape {
    private final Bounds bounds;

    BoundsOfTape(Bounds bounds) {
        this.bounds = bounds;
    }

    void run() {
        bounds.sentence(1, "No SHAPES", this::noShapes);
        bounds.sentence(1, "an empty BOOK", this::emptyBook);
        bounds.sentence(1, "no NAMES", this::noNames);
        bounds.sentence(1, "each letter becomes itself", this::lettersAsTheyAre);
        bounds.sentence(1, "an empty TAPE.", this::emptyTape);
        bounds.sentence(1, "No SHAPES, an empty BOOK, no NAMES", this::nothingOfAnotherObject);
        bounds.sentence(2, "Twenty bytes come behind the TAPE", this::bytesBehind);
        bounds.sentence(2, "four of each number, the highest first", this::highestFirst);
        bounds.sentence(2, "how many it has", this::howMany);
        bounds.sentence(2, "NONE, and none come, if it would have more than 400.", this::moreThanFourHundred);
        bounds.sentence(18, "0 entries of the BOOK", this::countOfBook);
        bounds.sentence(18, "1 NAMES", this::countOfNames);
        bounds.sentence(18, "2 SHAPES.", this::countOfShapes);
        bounds.sentence(18, "NONE for another what.", this::countOfAnother);
    }

    private void noShapes() {
        bounds.due("count(2)", new Desk().count(2), 0);
        for (int land = 0; land < 6; land++) {
            Desk desk = new Desk();
            desk.name(land, "A");
            bounds.due("READINGS in LAND " + land, desk.readings(0, Bounds.MOST), 0);
        }
    }

    private void emptyBook() {
        bounds.due("count(0)", new Desk().count(0), 0);
        for (int land = 0; land < 6; land++) {
            for (int kind = 0; kind < 5; kind++) {
                Desk desk = new Desk();
                bounds.due("forget", desk.forget(land, kind, "a"), false);
                bounds.due("know", desk.know(land, kind, 1), 1);
            }
        }
    }

    private void noNames() {
        Desk desk = new Desk();
        bounds.due("count(1)", desk.count(1), 0);
        bounds.due("order(0)", desk.order(0), -1);
        bounds.due("look(0, 0)", desk.look(0, 0), Desk.NO_NAME);
        bounds.due("look(0, 6)", desk.look(0, 6), Desk.NO_NAME);
        bounds.due("readings(0, 0)", desk.readings(0, 0), -1);
        bounds.due("cost(0, 0)", desk.cost(0, 0), -1);
        bounds.due("kind(0, 0, 0)", desk.kind(0, 0, 0), -1);
        bounds.due("sign(0, 1, 0)", desk.sign(0, 1, 0), -1);
        bounds.due("agree(0, 0)", desk.agree(0, 0), -1);
        bounds.due("father(0, 1)", desk.father(0, 1), -1);
        bounds.due("fallen()", desk.fallen(), 0);
        bounds.due("the first NAME's number", desk.name(0, "A"), 0);
    }

    private void lettersAsTheyAre() {
        Desk desk = new Desk();
        desk.name(0, "abcdefghijklm nopqrstuvwxyz");
        bounds.due("PUT over", desk.putOf(0), "abcdefghijklm nopqrstuvwxyz");
        for (char letter = 'A'; letter <= 'Z'; letter++) {
            Desk one = new Desk();
            one.name(0, "" + letter);
            bounds.due("PUT over " + letter, one.putOf(0), "" + (char) (letter - 'A' + 'a'));
        }
    }

    private void emptyTape() {
        bounds.due("shape, n 1", new Desk().shape(0, 1), -2);
        bounds.due("shape, n 0", new Desk().shape(0, 0), -1);
        bounds.due("know, n 1", new Desk().know(0, 1, 1), -1);
        bounds.due("forget, n 1", new Desk().forget(0, 1, 1), false);
        bounds.due("name, n 1", new Desk().name(0, 1), -1);
        bounds.due("table, n 1", new Desk().table(0, 1), false);
        bounds.due("table, n 0", new Desk().table(0, 0), true);
        bounds.due("feed", new Desk().feed(0, 0, 0, 0, 0), 20);
    }

    private void nothingOfAnotherObject() {
        Desk used = new Desk();
        Scene.with("Ann").accept(used);
        Desk desk = new Desk();
        for (int what = 0; what < 3; what++) {
            bounds.due("count(" + what + ")", desk.count(what), 0);
        }
        bounds.due("TAPE", desk.shape(0, 1), -2);
        bounds.due("FAULT", desk.fault(0), 0);
        desk.name(0, "Zoe");
        bounds.due("PUT over", desk.putOf(0), "zoe");
        bounds.due("the other's NAMES", used.count(1), 6);
        bounds.due("the other's PUT over", used.putOf(4), "oei");
    }

    private void bytesBehind() {
        Desk desk = new Desk();
        desk.feed("Abcdefghijklmnopq Rs");
        desk.feed("tuv wxyz");
        bounds.due("name", desk.name(0, 28), 0);
        bounds.due("its signs", desk.putOf(0), "abcdefghijklmnopq rstuv wxyz");
        desk.feed("x");
        bounds.due("nothing of the old TAPE comes back", desk.name(0, 21), -1);
        bounds.due("the byte behind x is 0", desk.name(0, 2), -1);
        bounds.due("x alone", desk.name(0, 1), 1);
    }

    private void highestFirst() {
        Desk desk = new Desk();
        desk.feed(0x61626364, 0x65666768, 0x696a6b6c, 0x6d6e6f70, 0x71727374);
        bounds.due("name", desk.name(0, 20), 0);
        bounds.due("its signs", desk.putOf(0), "abcdefghijklmnopqrst");
        // A byte of 128 and more, or of 0, is none of a SHAPE's signs, wherever in its number it comes.
        int[] others = {0, 1, 127, 128, 255};
        for (int place = 0; place < 20; place++) {
            for (int other : others) {
                byteAt(place, other);
            }
        }
    }

    private void byteAt(int place, int other) {
        String text = "T?G?P?Q?F?M?I?G?;TGP";
        int[] numbers = new int[5];
        for (int i = 0; i < 20; i++) {
            numbers[i / 4] = numbers[i / 4] << 8 | (i == place ? other : text.charAt(i));
        }
        Desk desk = new Desk();
        desk.feed(numbers[0], numbers[1], numbers[2], numbers[3], numbers[4]);
        bounds.due("shape", desk.shape(0, 20), -1);
        bounds.due("place of a byte " + other, desk.fault(1), place);
    }

    private void howMany() {
        Desk desk = new Desk();
        for (int many = 20; many <= 400; many += 20) {
            bounds.due("feed", desk.feed(0, -1, Bounds.LEAST, Bounds.MOST, 0), many);
        }
        desk.clear();
        bounds.due("feed after the TAPE was emptied", desk.feed(0, 0, 0, 0, 0), 20);
    }

    private static void fill(Desk desk, int many) {
        Scene.build(desk);
        desk.feed("Bob Lee");
        for (int i = 20; i < many; i += 20) {
            desk.feed(0x61616161, 0, 0, 0, 0);
        }
    }

    private void moreThanFourHundred() {
        Desk desk = new Desk();
        fill(desk, 380);
        bounds.due("380 and 20", desk.feed(1, 1, 1, 1, 1), 400);
        bounds.due("400 and 20", desk.feed(1, 1, 1, 1, 1), -1);
        bounds.due("n 401", desk.shape(4, 401), -2);
        bounds.due("n 400", desk.shape(4, 400), -1);
        bounds.due("then empty", desk.shape(4, 1), -2);
        bounds.refused("feed at 400", -1, full -> fill(full, 400), full -> full.feed(0x62620000, 0, 0, 0, 0));
        bounds.refused("feed of 0 at 400", -1, full -> fill(full, 400), full -> full.feed(0, 0, 0, 0, 0));
    }

    private void countOfBook() {
        Desk desk = new Desk();
        for (int i = 0; i < 80; i++) {
            bounds.due("count(0)", desk.count(0), i);
            desk.know(i % 6, i % 5, BoundsOfBook.word(i));
        }
        bounds.due("count(0) when full", desk.count(0), 80);
        desk.know(0, 0, "more");
        bounds.due("count(0) after an 81st", desk.count(0), 80);
        desk.clear();
        desk.forget(0, 0, BoundsOfBook.word(0));
        bounds.due("count(0) after forget", desk.count(0), 79);
        bounds.due("count(1)", desk.count(1), 0);
        bounds.due("count(2)", desk.count(2), 0);
    }

    private void countOfNames() {
        Desk desk = new Desk();
        for (int i = 0; i < 30; i++) {
            bounds.due("count(1)", desk.count(1), i);
            desk.name(i % 6, "A b");
        }
        bounds.due("count(1) when full", desk.count(1), 30);
        desk.name(0, "A b");
        bounds.due("count(1) after a 31st", desk.count(1), 30);
        bounds.due("count(0)", desk.count(0), 0);
        bounds.due("count(2)", desk.count(2), 0);
    }

    private void countOfShapes() {
        Desk desk = new Desk();
        int[] lands = {5, 0, 3, 1, 4, 2};
        for (int i = 0; i < 6; i++) {
            bounds.due("count(2)", desk.count(2), i);
            desk.shape(lands[i], "G;G;G;-");
            bounds.due("count(2) after a FAULT", desk.count(2), i);
            desk.shape(lands[i], "G;G;G;-.");
            bounds.due("count(2) with one more", desk.count(2), i + 1);
            desk.shape(lands[i], "F;F;F;-.");
            bounds.due("count(2) with another SHAPE", desk.count(2), i + 1);
            desk.shape(lands[i], "F;F;F;-");
            bounds.due("count(2) with a FAULT behind it", desk.count(2), i + 1);
        }
    }

    private void countOfAnother() {
        for (int what : new int[] {-1, 3, Bounds.LEAST, Bounds.MOST}) {
            bounds.due("new, count(" + what + ")", new Desk().count(what), -1);
            bounds.refused("count(" + what + ")", -1, "Ann", desk -> desk.count(what));
        }
    }
}
