import java.util.Random;

/** Runs of calls at random, from seeds that never change, on a desk and on the model: all answers must be alike. */
public final class ModelTest {
    private static final Check check = new Check("ModelTest");
    private static final String[] STEMS = {"a", "b", "ab", "ba", "abs", "bas", "A.", "B'", "s", "as", "Abas", "o'B-a"};
    private static final String[] ENDINGS = {"-", "s", "as", "abs", "x"};
    private static final String MARKS = "?*+";
    private static final String[] KIN_SLOTS = {"G*M+", "I?G*M", "G+M?G?", "M?G*F?M?", "F?G*M*"};

    private final Random random;
    private final NameDesk desk = new NameDesk();
    private final Model model = new Model();
    private final int lands;
    /** In an easy run most NAMES have a READING. */
    private final boolean easy;
    /** In a run of kin many NAMES have a made WORD. */
    private final boolean kin;
    private int calls = 0;

    private ModelTest(long seed) {
        random = new Random(seed);
        lands = 1 + random.nextInt(3);
        easy = random.nextInt(3) != 0;
        kin = random.nextInt(3) == 0;
    }

    public static void main(String[] args) {
        long runs = args.length > 0 ? Long.parseLong(args[0]) : 300;
        for (long seed = 0; seed < runs; seed++) {
            new ModelTest(seed).run(seed);
        }
        check.end();
    }

    private void run(long seed) {
        for (int turn = 0; turn < 1000 && calls < 500; turn++) {
            String told = "seed " + seed + " call " + calls + " ";
            if (random.nextInt(5) < 2) {
                change(told);
            } else {
                ask(told);
            }
        }
    }

    private int pick(int bound) {
        return random.nextInt(bound);
    }

    /** Mostly in 0 .. bound - 1, at times just outside of it or far away. */
    private int near(int bound) {
        if (pick(40) == 0) {
            return pick(2) == 0 ? Integer.MIN_VALUE : Integer.MAX_VALUE;
        }
        return pick(20) == 0 ? pick(bound + 4) - 2 : pick(Math.max(1, bound));
    }

    private void tell(String told, String text) {
        for (int from = 0; from < text.length(); from += 20) {
            int[] numbers = new int[5];
            for (int i = 0; i < 5; i++) {
                numbers[i] = Check.number(text, from + 4 * i);
            }
            calls++;
            check.due(told + "feed", desk.feed(numbers[0], numbers[1], numbers[2], numbers[3], numbers[4]),
                    model.feed(numbers));
        }
    }

    private int lengthOf(String text) {
        return pick(15) == 0 ? text.length() + pick(5) - 2 : text.length();
    }

    private String spoil(String text) {
        if (pick(easy ? 20 : 4) != 0) {
            return text;
        }
        int at = pick(text.length() + 1);
        String signs = "TGPQFMI?*+;-.ab Zz'1";
        String sign = pick(3) == 0 ? "" : "" + signs.charAt(pick(signs.length()));
        return text.substring(0, at) + sign + text.substring(Math.min(text.length(), at + pick(2)));
    }

    private String letters() {
        StringBuilder text = new StringBuilder();
        int many = 1 + pick(4);
        for (int i = 0; i < many; i++) {
            char letter = Model.KINDS.charAt(pick(7));
            if (text.indexOf("" + letter) < 0 || pick(30) == 0) {
                text.append(letter);
            }
        }
        return text.toString();
    }

    private String shapeText() {
        StringBuilder text = new StringBuilder();
        if (kin && pick(4) != 0) {
            return KIN_SLOTS[pick(KIN_SLOTS.length)] + ";" + letters() + ";" + letters() + ";s.";
        }
        int many = pick(25) == 0 ? 9 : 1 + pick(8);
        for (int i = 0; i < many; i++) {
            text.append(pick(3) == 0 ? Model.KINDS.charAt(pick(7)) : "GFGFMI".charAt(pick(6)));
            if (pick(easy ? 20 : 4) != 0) {
                text.append(MARKS.charAt(easy && pick(4) != 0 ? 1 : pick(3)));
            }
        }
        text.append(';').append(letters()).append(';').append(letters()).append(';');
        text.append(pick(30) == 0 ? "abcdefg" : ENDINGS[pick(ENDINGS.length)]).append('.');
        return spoil(text.toString());
    }

    private String word() {
        return STEMS[pick(STEMS.length)];
    }

    private String nameText() {
        StringBuilder text = new StringBuilder(word());
        int more = pick(30) == 0 ? 7 + pick(2) : pick(5);
        for (int i = 0; i < more; i++) {
            text.append(' ').append(word());
        }
        return text.toString();
    }

    private void change(String told) {
        int land = near(lands);
        String text;
        calls++;
        switch (pick(8)) {
            case 0:
                text = shapeText();
                tell(told, text);
                int n = lengthOf(text);
                check.due(told + "shape " + text, desk.shape(land, n), model.shape(land, n));
                check.due(told + "fault(0) " + text, desk.fault(0), model.fault(0));
                check.due(told + "fault(1) " + text, desk.fault(1), model.fault(1));
                calls += 2;
                break;
            case 1:
            case 2:
                text = spoil(nameText());
                tell(told, text);
                n = lengthOf(text);
                check.due(told + "name " + text, desk.name(land, n), model.name(land, n));
                break;
            case 3:
            case 4:
            case 5:
                text = word();
                tell(told, text);
                n = lengthOf(text);
                int kind = near(5);
                check.due(told + "know " + text, desk.know(land, kind, n), model.know(land, kind, n));
                break;
            case 6:
                text = word();
                tell(told, text);
                n = lengthOf(text);
                kind = near(5);
                check.due(told + "forget " + text, desk.forget(land, kind, n), model.forget(land, kind, n));
                break;
            default:
                text = pick(2) == 0 ? "ab" : "sba";
                tell(told, text);
                int letter = pick(3) == 0 ? 's' - 'a' : near(2);
                n = pick(5);
                check.due(told + "table", desk.table(letter, n), model.table(letter, n));
                break;
        }
        // A TAPE that stayed would fill up, and nothing more would be told.
        if (pick(3) != 0) {
            calls++;
            check.due(told + "shape(0, 0)", desk.shape(0, 0), model.shape(0, 0));
        }
    }

    private void ask(String told) {
        int many = desk.count(1);
        int a = near(many);
        int b = near(many);
        int k = near(pick(2) == 0 ? 3 : 12);
        int w = near(6);
        calls += 2;
        switch (pick(12)) {
            case 0:
                check.due(told + "readings", desk.readings(a, w * 3), model.readings(a, w * 3));
                break;
            case 1:
                check.due(told + "cost", desk.cost(a, k), model.cost(a, k));
                break;
            case 2:
            case 3:
                check.due(told + "kind", desk.kind(a, k, w), model.kind(a, k, w));
                break;
            case 4:
            case 5:
                check.due(told + "look", Check.look(desk, a, w), model.look(a, w));
                break;
            case 6:
                check.due(told + "order", desk.order(a), model.order(a));
                break;
            case 7:
                int which = near(3);
                check.due(told + "sign", desk.sign(a, which, k), model.sign(a, which, k));
                break;
            case 8:
                check.due(told + "agree", desk.agree(a, b), model.agree(a, b));
                break;
            case 9:
                check.due(told + "father", desk.father(a, b), model.father(a, b));
                break;
            case 10:
                check.due(told + "fallen", desk.fallen(), model.fallen());
                break;
            default:
                check.due(told + "count", desk.count(w - 1), model.count(w - 1));
                check.due(told + "fault", desk.fault(w - 1), model.fault(w - 1));
                calls++;
                break;
        }
    }
}
