import java.util.function.ToIntFunction;

/** What holds for every call, in every state and for all arguments. */
final class BoundsOfUse {
    private static final int[] EDGES = {Integer.MIN_VALUE, -2, -1, 0, 1, 2, 3, 4, 5, 6, 7, 8, 20, 21, 25, 26, 29, 30, 79,
        80, 399, 400, 401, Integer.MAX_VALUE};
    private final Bounds bounds;

    BoundsOfUse(Bounds bounds) {
        this.bounds = bounds;
    }

    void run() {
        bounds.sentence(1, "An object is used for at most 512 calls after it has been made; what later calls answer is free.",
                this::lastCall);
        bounds.sentence(11, "IndexOutOfBoundsException: no such NAME. NoSuchElementException: no such what.",
                this::nothingElseIsThrown);
    }

    /** The 512th call answers as an earlier one does. */
    private void lastCall() {
        as512th("feed", 40, desk -> desk.feed(0, 0, 0, 0, 0));
        as512th("shape", -1, desk -> desk.shape(0, 3));
        as512th("fault", 3, desk -> desk.fault(0));
        as512th("know", 6, desk -> desk.know(0, 1, 3));
        as512th("forget", 0, desk -> desk.forget(0, 1, 3) ? 1 : 0);
        as512th("name", 6, desk -> desk.name(0, 3));
        as512th("readings", 4, desk -> desk.readings(0, 40));
        as512th("cost", 12, desk -> desk.cost(0, 3));
        as512th("kind", 2, desk -> desk.kind(0, 0, 2));
        as512th("look", 4, desk -> desk.look(0, 1));
        as512th("order", 5, desk -> desk.order(5));
        as512th("sign", 'D', desk -> desk.sign(0, 0, 0));
        as512th("agree", 1, desk -> desk.agree(0, 1));
        as512th("father", 1, desk -> desk.father(2, 3));
        as512th("table", 1, desk -> desk.table(0, 3) ? 1 : 0);
        as512th("fallen", 1, Desk::fallen);
        as512th("count", 5, desk -> desk.count(0));
    }

    private void as512th(String call, int due, ToIntFunction<Desk> answer) {
        Desk desk = new Desk();
        Scene.with("bob").accept(desk);
        bounds.due(call + " early", answer.applyAsInt(desk), due);
        Desk late = new Desk();
        Scene.with("bob").accept(late);
        while (late.callsLeft() > 1) {
            late.agree(late.callsLeft() % 6, late.callsLeft() % 5);
        }
        bounds.due(call + " as the 512th", answer.applyAsInt(late), due);
    }

    private static void full(Desk desk) {
        desk.shape(0, "T*G*P*Q*F*M*I*T*;TGPQFMI;TGPQFMI;s.");
        for (int i = 0; i < 80; i++) {
            desk.know(i % 6, i % 5, i < 30 ? "as" : BoundsOfBook.word(i));
        }
        for (int i = 0; i < 30; i++) {
            desk.name(i % 6, "as as a as as as a as");
        }
        for (int i = 0; i < 20; i++) {
            desk.feed(0x61736173, 0x20617361, -1, 0, 0);
        }
    }

    private static Desk made(int state) {
        Desk desk = new Desk();
        if (state == 1) {
            Scene.with("as").accept(desk);
        } else if (state == 2) {
            full(desk);
        }
        return desk;
    }

    private void nothingElseIsThrown() {
        for (int state = 0; state < 3; state++) {
            for (int call = 0; call < 17; call++) {
                edges(state, call);
            }
        }
    }

    private void edges(int state, int call) {
        Desk desk = made(state);
        for (int a : EDGES) {
            for (int b : EDGES) {
                for (int c : EDGES) {
                    if (desk.callsLeft() == 0) {
                        desk = made(state);
                    }
                    String wrong = thrown(desk, call, a, b, c);
                    bounds.due("call " + call + " with " + a + ", " + b + ", " + c + " on desk " + state, wrong, "");
                    if (takesOne(call) || takesTwo(call)) {
                        break;
                    }
                }
                if (takesOne(call)) {
                    break;
                }
            }
        }
    }

    private static boolean takesOne(int call) {
        return call == 2 || call == 10 || call == 15 || call == 16;
    }

    private static boolean takesTwo(int call) {
        return call == 1 || call >= 5 && call <= 7 || call == 9 || call >= 12 && call <= 14;
    }

    private static String thrown(Desk desk, int call, int a, int b, int c) {
        try {
            make(desk, call, a, b, c);
            return "";
        } catch (RuntimeException e) {
            return e.toString();
        }
    }

    private static int make(Desk desk, int call, int a, int b, int c) {
        switch (call) {
            case 0:
                return desk.feed(a, b, c, a, b);
            case 1:
                return desk.shape(a, b);
            case 2:
                return desk.fault(a);
            case 3:
                return desk.know(a, b, c);
            case 4:
                return desk.forget(a, b, c) ? 1 : 0;
            case 5:
                return desk.name(a, b);
            case 6:
                return desk.readings(a, b);
            case 7:
                return desk.cost(a, b);
            case 8:
                return desk.kind(a, b, c);
            case 9:
                return desk.look(a, b);
            case 10:
                return desk.order(a);
            case 11:
                return desk.sign(a, b, c);
            case 12:
                return desk.agree(a, b);
            case 13:
                return desk.father(a, b);
            case 14:
                return desk.table(a, b) ? 1 : 0;
            case 15:
                return desk.fallen();
            default:
                return desk.count(a);
        }
    }
}
