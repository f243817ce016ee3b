/** What the tests share: comparing answers, and telling a text to a desk by feed(). */
final class Check {
    private final String test;
    private int wrong = 0;
    private int made = 0;

    Check(String test) {
        this.test = test;
    }

    void due(String call, long got, long want) {
        made++;
        if (got != want) {
            wrong++;
            System.out.println(test + ": " + call + " answered " + got + ", due is " + want);
        }
    }

    void due(String call, boolean got, boolean want) {
        due(call, got ? 1 : 0, want ? 1 : 0);
    }

    void due(String call, String got, String want) {
        made++;
        if (!got.equals(want)) {
            wrong++;
            System.out.println(test + ": " + call + " answered \"" + got + "\", due is \"" + want + "\"");
        }
    }

    /** Ends the program, with 1 if an answer was wrong. */
    void end() {
        System.out.println(test + ": " + made + " answers, " + wrong + " wrong");
        System.exit(wrong == 0 ? 0 : 1);
    }

    static int number(String text, int from) {
        int number = 0;
        for (int i = from; i < from + 4; i++) {
            number = number << 8 | (i < text.length() ? text.charAt(i) & 255 : 0);
        }
        return number;
    }

    /** Feeds the text, with bytes 0 behind it: what the last feed() answered. */
    static int feed(NameDesk desk, String text) {
        int answer = 0;
        for (int i = 0; i < Math.max(1, text.length()); i += 20) {
            answer = desk.feed(number(text, i), number(text, i + 4), number(text, i + 8),
                    number(text, i + 12), number(text, i + 16));
        }
        return answer;
    }

    /** Each of these needs an empty TAPE. */
    static int shape(NameDesk desk, int land, String text) {
        feed(desk, text);
        return desk.shape(land, text.length());
    }

    static int know(NameDesk desk, int land, int kind, String text) {
        feed(desk, text);
        return desk.know(land, kind, text.length());
    }

    static boolean forget(NameDesk desk, int land, int kind, String text) {
        feed(desk, text);
        return desk.forget(land, kind, text.length());
    }

    static int name(NameDesk desk, int land, String text) {
        feed(desk, text);
        return desk.name(land, text.length());
    }

    static boolean table(NameDesk desk, char letter, String text) {
        feed(desk, text);
        return desk.table(letter - 'a', text.length());
    }

    /** Empties the TAPE by an empty SHAPE: but for the latest FAULT nothing else changes. */
    static void clear(NameDesk desk) {
        desk.shape(0, 0);
    }

    static String line(NameDesk desk, int name, int which) {
        StringBuilder text = new StringBuilder();
        for (int k = 0; desk.sign(name, which, k) != NameDesk.NONE; k++) {
            text.append((char) desk.sign(name, which, k));
        }
        return text.toString();
    }

    /** The KINDS' letters of a READING, empty if there is none such. */
    static String row(NameDesk desk, int name, int r) {
        StringBuilder text = new StringBuilder();
        for (int w = 0; desk.kind(name, r, w) != NameDesk.NONE; w++) {
            text.append("TGPQFMI".charAt(desk.kind(name, r, w)));
        }
        return text.toString();
    }

    static final int NO_NAME = -101;
    static final int NO_WHAT = -102;

    /** By the class itself: one below it would be the machine's own, not the document's. */
    static int look(NameDesk desk, int name, int what) {
        try {
            return desk.look(name, what);
        } catch (IndexOutOfBoundsException | java.util.NoSuchElementException e) {
            if (e.getClass() == IndexOutOfBoundsException.class) {
                return NO_NAME;
            }
            if (e.getClass() == java.util.NoSuchElementException.class) {
                return NO_WHAT;
            }
            throw e;
        }
    }
}
