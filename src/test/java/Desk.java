/**
 * A desk as the tests of the bounds use it: it tells texts by feed(), and counts its calls, since behind the 512th
 * nothing is promised and no test may ask there.
 */
final class Desk {
    static final int CALLS = 512;
    static final int NO_NAME = Check.NO_NAME;
    static final int NO_WHAT = Check.NO_WHAT;

    private final NameDesk desk = new NameDesk();
    private int calls = 0;

    /** A desk whose LAND 0 has this SHAPE and these NAMES. */
    static Desk of(String shape, String... names) {
        Desk desk = new Desk();
        desk.shape(0, shape);
        for (String name : names) {
            desk.name(0, name);
        }
        return desk;
    }

    private NameDesk called() {
        calls++;
        if (calls > CALLS) {
            throw new IllegalStateException("a test makes more than 512 calls on one desk");
        }
        return desk;
    }

    int callsLeft() {
        return CALLS - calls;
    }

    int feed(int a, int b, int c, int d, int e) {
        return called().feed(a, b, c, d, e);
    }

    int shape(int land, int n) {
        return called().shape(land, n);
    }

    int fault(int what) {
        return called().fault(what);
    }

    int know(int land, int kind, int n) {
        return called().know(land, kind, n);
    }

    boolean forget(int land, int kind, int n) {
        return called().forget(land, kind, n);
    }

    int name(int land, int n) {
        return called().name(land, n);
    }

    int readings(int name, int cost) {
        return called().readings(name, cost);
    }

    int cost(int name, int r) {
        return called().cost(name, r);
    }

    int kind(int name, int r, int w) {
        return called().kind(name, r, w);
    }

    /** NO_NAME and NO_WHAT stand for the two exceptions. */
    int look(int name, int what) {
        return Check.look(called(), name, what);
    }

    int order(int k) {
        return called().order(k);
    }

    int sign(int name, int which, int k) {
        return called().sign(name, which, k);
    }

    int agree(int a, int b) {
        return called().agree(a, b);
    }

    int father(int name, int father) {
        return called().father(name, father);
    }

    boolean table(int letter, int n) {
        return called().table(letter, n);
    }

    int fallen() {
        return called().fallen();
    }

    int count(int what) {
        return called().count(what);
    }

    /** Feeds the text, with bytes 0 behind it: what the last feed() answered. */
    int feed(String text) {
        int answer = 0;
        for (int i = 0; i < Math.max(1, text.length()); i += 20) {
            answer = feed(Check.number(text, i), Check.number(text, i + 4), Check.number(text, i + 8),
                    Check.number(text, i + 12), Check.number(text, i + 16));
        }
        return answer;
    }

    /** Each of these needs an empty TAPE. */
    int shape(int land, String text) {
        feed(text);
        return shape(land, text.length());
    }

    int know(int land, int kind, String text) {
        feed(text);
        return know(land, kind, text.length());
    }

    boolean forget(int land, int kind, String text) {
        feed(text);
        return forget(land, kind, text.length());
    }

    int name(int land, String text) {
        feed(text);
        return name(land, text.length());
    }

    boolean table(char letter, String text) {
        feed(text);
        return table(letter - 'a', text.length());
    }

    /** Empties the TAPE by an empty SHAPE: but for the latest FAULT nothing else changes. */
    void clear() {
        shape(0, 0);
    }

    private String line(int name, int which) {
        StringBuilder text = new StringBuilder();
        for (int k = 0; k < Desk.CALLS; k++) {
            int sign = sign(name, which, k);
            if (sign == NameDesk.NONE) {
                break;
            }
            text.append((char) sign);
        }
        return text.toString();
    }

    String callOf(int name) {
        return line(name, 0);
    }

    String putOf(int name) {
        return line(name, 1);
    }

    String keyOf(int name) {
        return line(name, 2);
    }

    /** The KINDS' letters of a READING, empty if there is none such. */
    String row(int name, int r) {
        StringBuilder text = new StringBuilder();
        for (int w = 0; w < Desk.CALLS; w++) {
            int kind = kind(name, r, w);
            if (kind == NameDesk.NONE) {
                break;
            }
            text.append("TGPQFMI".charAt(kind));
        }
        return text.toString();
    }

    /** All READINGS as "row:cost", in their order. */
    String all(int name) {
        StringBuilder text = new StringBuilder();
        for (int r = 0; r < Desk.CALLS; r++) {
            int cost = cost(name, r);
            if (cost == NameDesk.NONE) {
                break;
            }
            text.append(r == 0 ? "" : " ").append(row(name, r)).append(':').append(cost);
        }
        return text.toString();
    }

    /** The NAMES' numbers in ORDER. */
    String order() {
        StringBuilder text = new StringBuilder();
        for (int k = 0; k < Desk.CALLS; k++) {
            int name = order(k);
            if (name == NameDesk.NONE) {
                break;
            }
            text.append(k == 0 ? "" : " ").append(name);
        }
        return text.toString();
    }
}
