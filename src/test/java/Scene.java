import java.util.ArrayList;
import java.util.List;
import java.util.function.Consumer;
import java.util.function.Function;
import java.util.function.ToIntFunction;

/** A desk in use, and all that the calls show of a desk. */
final class Scene {
    private static final int NAMES = 6;
    private static final int ROWS = 3;
    private static final int WORDS = 4;
    private static final int SIGNS = 17;

    private record Ask(String call, ToIntFunction<Desk> answer) { }

    private record Probe(String call, Function<Desk, String> answer) { }

    private Scene() { }

    /** Something of each sort: SHAPES, entries, NAMES with and without READING, kin, letters that fall, a FAULT. */
    static void build(Desk desk) {
        desk.shape(0, "T?G+P*F;FG;TF;-.");
        desk.shape(1, "G*M?F?;MG;G;son.");
        desk.know(0, 0, "Dr");
        desk.know(0, 1, "Ann");
        desk.know(0, 2, "van");
        desk.know(1, 1, "Jon");
        desk.know(1, 1, "Karl");
        desk.name(0, "Dr. Ann van Berg");
        desk.name(0, "A. Berg");
        desk.name(1, "Karl Jon-Son");
        desk.name(1, "Jon");
        desk.name(2, "Zoe");
        desk.name(2, "Oe");
        desk.table('z', "");
        desk.table('e', "ei");
        desk.shape(3, "G;GG");
    }

    static Consumer<Desk> with(String tape) {
        return desk -> {
            build(desk);
            desk.feed(tape);
        };
    }

    /** What the call changes on the desk that is built so, by what later calls show: "nothing", or the first of it. */
    static String change(Consumer<Desk> build, ToIntFunction<Desk> call) {
        String change = changeInAsks(build, call, false);
        if (change.equals("nothing")) {
            change = changeInAsks(build, call, true);
        }
        return change.equals("nothing") ? changeInProbes(build, call) : change;
    }

    private static Desk made(Consumer<Desk> build) {
        Desk desk = new Desk();
        build.accept(desk);
        return desk;
    }

    /** A desk that was asked before may have kept answers that no longer fit. */
    private static void askBefore(Desk desk) {
        desk.readings(0, 40);
        desk.order(0);
        desk.fallen();
        desk.sign(0, 1, 0);
        desk.kind(1, 0, 0);
    }

    private static String changeInAsks(Consumer<Desk> build, ToIntFunction<Desk> call, boolean askedBefore) {
        Desk plain = null;
        Desk tried = null;
        for (Ask ask : asks()) {
            if (tried == null || tried.callsLeft() == 0) {
                plain = made(build);
                tried = made(build);
                if (askedBefore) {
                    askBefore(plain);
                    askBefore(tried);
                }
                call.applyAsInt(tried);
            }
            int was = ask.answer.applyAsInt(plain);
            int is = ask.answer.applyAsInt(tried);
            if (was != is) {
                return ask.call + " from " + was + " to " + is;
            }
        }
        return "nothing";
    }

    private static List<Ask> asks() {
        List<Ask> asks = new ArrayList<>();
        for (int i = -1; i < 4; i++) {
            int what = i;
            asks.add(new Ask("count(" + what + ")", desk -> desk.count(what)));
            asks.add(new Ask("fault(" + what + ")", desk -> desk.fault(what)));
        }
        for (int i = -1; i <= 30; i++) {
            int k = i;
            asks.add(new Ask("order(" + k + ")", desk -> desk.order(k)));
        }
        asks.add(new Ask("fallen()", Desk::fallen));
        for (int name = 0; name <= NAMES; name++) {
            asksOf(name, asks);
        }
        return asks;
    }

    private static void asksOf(int name, List<Ask> asks) {
        for (int i = 0; i < 6; i++) {
            int what = i;
            asks.add(new Ask("look(" + name + ", " + what + ")", desk -> desk.look(name, what)));
        }
        for (int most : new int[] {0, 2, 4, 40}) {
            asks.add(new Ask("readings(" + name + ", " + most + ")", desk -> desk.readings(name, most)));
        }
        for (int i = 0; i < ROWS; i++) {
            int r = i;
            asks.add(new Ask("cost(" + name + ", " + r + ")", desk -> desk.cost(name, r)));
            for (int j = 0; j < WORDS; j++) {
                int w = j;
                asks.add(new Ask("kind(" + name + ", " + r + ", " + w + ")", desk -> desk.kind(name, r, w)));
            }
        }
        for (int i = 0; i < 3 * SIGNS; i++) {
            int which = i / SIGNS;
            int k = i % SIGNS;
            asks.add(new Ask("sign(" + name + ", " + which + ", " + k + ")", desk -> desk.sign(name, which, k)));
        }
        for (int i = 0; i <= NAMES; i++) {
            int other = i;
            asks.add(new Ask("agree(" + name + ", " + other + ")", desk -> desk.agree(name, other)));
            asks.add(new Ask("father(" + name + ", " + other + ")", desk -> desk.father(name, other)));
        }
    }

    /** What the TAPE holds is shown by calls that empty it, so each has a desk of its own. */
    private static String changeInProbes(Consumer<Desk> build, ToIntFunction<Desk> call) {
        for (Probe probe : probes()) {
            Desk plain = made(build);
            Desk tried = made(build);
            call.applyAsInt(tried);
            String was = probe.answer.apply(plain);
            String is = probe.answer.apply(tried);
            if (!was.equals(is)) {
                return "the TAPE, by " + probe.call + " from " + was + " to " + is;
            }
        }
        return "nothing";
    }

    private static List<Probe> probes() {
        List<Probe> probes = new ArrayList<>();
        probes.add(new Probe("feed", desk -> "" + desk.feed(0, 0, 0, 0, 0)));
        for (int i = 0; i <= 402; i++) {
            // A TAPE has 0, 20, 40 .. bytes, and the texts of these tests are short.
            if (i <= 22 || i % 20 <= 1) {
                addProbes(i, probes);
            }
        }
        return probes;
    }

    private static void addProbes(int n, List<Probe> probes) {
        probes.add(new Probe("name(0, " + n + ")", desk -> {
            int name = desk.name(0, n);
            return name + " " + (name < 0 ? "" : desk.callOf(name) + "/" + desk.putOf(name));
        }));
        probes.add(new Probe("shape(2, " + n + ")", desk -> {
            int slots = desk.shape(2, n);
            return slots + " " + desk.fault(0) + " " + desk.fault(1) + " " + desk.readings(4, 40) + desk.keyOf(4);
        }));
        probes.add(new Probe("know(0, 1, " + n + ")", desk -> desk.know(0, 1, n) + " " + desk.readings(0, 2)));
        probes.add(new Probe("forget(0, 1, " + n + ")", desk -> desk.forget(0, 1, n) + " " + desk.readings(0, 2)));
        probes.add(new Probe("table(0, " + n + ")", desk -> desk.table(0, n) + " " + desk.putOf(0)));
    }
}
