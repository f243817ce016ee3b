import java.util.ArrayList;
import java.util.HashSet;
import java.util.List;
import java.util.Set;
import java.util.regex.Matcher;
import java.util.regex.Pattern;

/**
 * The document once more, by other means than the program's: READINGS are all rows of KINDS that the SLOTS,
 * taken as a regular expression, match; FAULTS are found by a looser expression and by counting.
 */
final class Model {
    static final String KINDS = "TGPQFMI";
    private static final int CANNOT = -1;
    private static final Pattern WORD = Pattern.compile("[A-Za-z][A-Za-z'-]{0,19}\\.?");
    private static final Pattern LOOSE = Pattern.compile("([TGPQFMI][?*+]?)+;[TGPQFMI]+;[TGPQFMI]+;([a-z]+|-)\\.");

    private String tape = "";
    private final String[] shapes = new String[6];
    private int fault = 0;
    private int place = -1;
    private final Set<String> book = new HashSet<>();
    private final List<String> names = new ArrayList<>();
    private final List<Integer> lands = new ArrayList<>();
    private final String[] table = new String[26];
    private final java.util.Map<Integer, List<String>> rowsFound = new java.util.HashMap<>();

    Model() {
        for (int i = 0; i < 26; i++) {
            table[i] = "" + (char) ('a' + i);
        }
    }

    int feed(int[] numbers) {
        if (tape.length() > 380) {
            return -1;
        }
        for (int number : numbers) {
            for (int shift = 24; shift >= 0; shift -= 8) {
                tape += (char) (number >>> shift & 255);
            }
        }
        return tape.length();
    }

    private boolean has(int n) {
        return n >= 0 && n <= tape.length();
    }

    static String fold(String word) {
        return word.replaceAll("[^A-Za-z]", "").toLowerCase(java.util.Locale.ROOT);
    }

    int shape(int land, int n) {
        if (land < 0 || land > 5 || !has(n)) {
            return -2;
        }
        String text = tape.substring(0, n);
        tape = "";
        findFault(text);
        if (fault != 0) {
            return -1;
        }
        shapes[land] = text;
        rowsFound.clear();
        return text.split(";")[0].replaceAll("[^A-Z]", "").length();
    }

    private void findFault(String text) {
        fault = 0;
        place = -1;
        worse(1, firstBad(text));
        worse(2, firstTooMuch(text));
        worse(3, firstTwice(text));
    }

    private void worse(int number, int at) {
        if (at >= 0 && (fault == 0 || at < place)) {
            fault = number;
            place = at;
        }
    }

    private static int firstBad(String text) {
        if (LOOSE.matcher(text).matches()) {
            return -1;
        }
        for (int n = 1; n <= text.length(); n++) {
            Matcher matcher = LOOSE.matcher(text.substring(0, n));
            if (!matcher.matches() && !matcher.hitEnd()) {
                return n - 1;
            }
        }
        // A text that is whole ahead of its end has a sign too much there.
        return text.length();
    }

    private static int firstTooMuch(String text) {
        int part = 0;
        int many = 0;
        for (int i = 0; i < text.length(); i++) {
            char sign = text.charAt(i);
            if (sign == ';') {
                part++;
                many = 0;
            } else if (part == 0 && KINDS.indexOf(sign) >= 0 && ++many == 9) {
                return i;
            } else if (part == 3 && Character.isLowerCase(sign) && ++many == 7) {
                return i;
            }
        }
        return -1;
    }

    private static int firstTwice(String text) {
        int part = 0;
        String seen = "";
        for (int i = 0; i < text.length(); i++) {
            char sign = text.charAt(i);
            if (sign == ';') {
                part++;
                seen = "";
            } else if ((part == 1 || part == 2) && KINDS.indexOf(sign) >= 0) {
                if (seen.indexOf(sign) >= 0) {
                    return i;
                }
                seen += sign;
            }
        }
        return -1;
    }

    int fault(int what) {
        return what == 0 ? fault : what == 1 ? place : -1;
    }

    private String entry(int land, int kind, int n) {
        if (land < 0 || land > 5 || kind < 0 || kind > 4 || !has(n) || !WORD.matcher(tape.substring(0, n)).matches()) {
            return null;
        }
        return land + " " + KINDS.charAt(kind) + " " + fold(tape.substring(0, n));
    }

    int know(int land, int kind, int n) {
        String entry = entry(land, kind, n);
        if (entry == null || book.size() == 80 || !book.add(entry)) {
            return -1;
        }
        tape = "";
        rowsFound.clear();
        return book.size();
    }

    boolean forget(int land, int kind, int n) {
        String entry = entry(land, kind, n);
        if (entry == null || !book.remove(entry)) {
            return false;
        }
        tape = "";
        rowsFound.clear();
        return true;
    }

    int name(int land, int n) {
        if (land < 0 || land > 5 || !has(n) || names.size() == 30) {
            return -1;
        }
        String text = tape.substring(0, n);
        String[] words = text.split(" ", -1);
        for (String word : words) {
            if (!WORD.matcher(word).matches()) {
                return -1;
            }
        }
        if (words.length > 8) {
            return -1;
        }
        names.add(text);
        lands.add(land);
        tape = "";
        return names.size() - 1;
    }

    private boolean isName(int name) {
        return name >= 0 && name < names.size();
    }

    private boolean knows(int land, char kind, String folded) {
        return book.contains(land + " " + kind + " " + folded);
    }

    private int costOf(int land, char kind, String folded) {
        if (kind == 'I') {
            return folded.length() == 1 ? 0 : CANNOT;
        }
        if (kind == 'M') {
            String ending = shapes[land].split(";")[3].replaceAll("[^a-z]", "");
            if (ending.isEmpty() || !folded.endsWith(ending) || folded.length() == ending.length()) {
                return CANNOT;
            }
            return knows(land, 'G', folded.substring(0, folded.length() - ending.length())) ? 0 : 3;
        }
        if (knows(land, kind, folded)) {
            return 0;
        }
        if (kind != 'G' && kind != 'F') {
            return CANNOT;
        }
        return knows(land, 'T', folded) || knows(land, 'P', folded) || knows(land, 'Q', folded) ? 5 : 2;
    }

    /** Each as its COST in two digits and its KINDS' numbers, in order. */
    List<String> rows(int name) {
        return rowsFound.computeIfAbsent(name, this::findRows);
    }

    private List<String> findRows(int name) {
        List<String> rows = new ArrayList<>();
        int land = lands.get(name);
        if (shapes[land] == null) {
            return rows;
        }
        Pattern slots = Pattern.compile(shapes[land].split(";")[0]);
        lengthen(rows, slots, land, names.get(name).split(" "), "", 0);
        java.util.Collections.sort(rows);
        return rows;
    }

    private void lengthen(List<String> rows, Pattern slots, int land, String[] words, String row, int cost) {
        if (row.length() == words.length) {
            if (slots.matcher(row).matches()) {
                StringBuilder text = new StringBuilder();
                text.append((char) ('0' + cost / 10)).append((char) ('0' + cost % 10));
                for (char letter : row.toCharArray()) {
                    text.append(KINDS.indexOf(letter));
                }
                rows.add(text.toString());
            }
            return;
        }
        for (char kind : KINDS.toCharArray()) {
            int more = costOf(land, kind, fold(words[row.length()]));
            if (more != CANNOT) {
                lengthen(rows, slots, land, words, row + kind, cost + more);
            }
        }
    }

    int readings(int name, int cost) {
        if (!isName(name) || cost < 0) {
            return -1;
        }
        int many = 0;
        for (String row : rows(name)) {
            many += Integer.parseInt(row.substring(0, 2)) <= cost ? 1 : 0;
        }
        return many;
    }

    int cost(int name, int r) {
        if (!isName(name) || r < 0 || r >= rows(name).size()) {
            return -1;
        }
        return Integer.parseInt(rows(name).get(r).substring(0, 2));
    }

    int kind(int name, int r, int w) {
        if (!isName(name) || r < 0 || w < 0 || r >= rows(name).size() || w >= names.get(name).split(" ").length) {
            return -1;
        }
        return rows(name).get(r).charAt(2 + w) - '0';
    }

    /** The WORDS as told that READING has as the KINDS told, by letter; null without READING. */
    private List<String> chosen(int name, String letters) {
        List<String> rows = rows(name);
        if (rows.isEmpty()) {
            return null;
        }
        List<String> chosen = new ArrayList<>();
        String[] words = names.get(name).split(" ");
        for (char letter : letters.toCharArray()) {
            for (int w = 0; w < words.length; w++) {
                if (rows.get(0).charAt(2 + w) - '0' == KINDS.indexOf(letter)) {
                    chosen.add(words[w]);
                }
            }
        }
        return chosen;
    }

    private List<String> words(int name, int part) {
        String shape = shapes[lands.get(name)];
        return shape == null ? null : chosen(name, shape.split(";")[part]);
    }

    private static List<String> foldAll(List<String> words) {
        List<String> all = new ArrayList<>();
        for (String word : words) {
            all.add(fold(word));
        }
        return all;
    }

    private static int compareKeys(List<String> a, List<String> b) {
        for (int i = 0; i < Math.min(a.size(), b.size()); i++) {
            int difference = a.get(i).compareTo(b.get(i));
            if (difference != 0) {
                return difference;
            }
        }
        return a.size() - b.size();
    }

    private List<Integer> orderOfAll() {
        List<List<String>> keys = new ArrayList<>();
        List<Integer> all = new ArrayList<>();
        for (int i = 0; i < names.size(); i++) {
            List<String> words = words(i, 1);
            keys.add(words == null ? null : foldAll(words));
            all.add(i);
        }
        all.sort((a, b) -> {
            if (keys.get(a) == null || keys.get(b) == null) {
                return (keys.get(a) == null ? 1 : 0) - (keys.get(b) == null ? 1 : 0);
            }
            return compareKeys(keys.get(a), keys.get(b));
        });
        return all;
    }

    String line(int name, int which) {
        if (which == 1) {
            return put(name);
        }
        List<String> words = words(name, which == 0 ? 2 : 1);
        if (words == null) {
            return "";
        }
        return String.join(" ", which == 0 ? words : foldAll(words));
    }

    private String put(int name) {
        StringBuilder text = new StringBuilder();
        for (char sign : String.join(" ", foldAll(List.of(names.get(name).split(" ")))).toCharArray()) {
            text.append(sign == ' ' ? " " : table[sign - 'a']);
        }
        return text.toString();
    }

    int look(int name, int what) {
        if (!isName(name)) {
            return Check.NO_NAME;
        }
        switch (what) {
            case 0:
                return lands.get(name);
            case 1:
                return names.get(name).split(" ").length;
            case 2:
                return orderOfAll().indexOf(name);
            case 3:
                return words(name, 1) == null ? 0 : words(name, 1).size();
            case 4:
                return line(name, 0).length();
            case 5:
                return line(name, 1).length();
            default:
                return Check.NO_WHAT;
        }
    }

    int order(int k) {
        return isName(k) ? orderOfAll().get(k) : -1;
    }

    int sign(int name, int which, int k) {
        if (!isName(name) || which < 0 || which > 2 || k < 0 || k >= line(name, which).length()) {
            return -1;
        }
        return line(name, which).charAt(k);
    }

    /** FOLDED WORDS that READING has as one of these KINDS, in order of the NAME. */
    private List<String> ofKinds(int name, String letters) {
        List<String> found = new ArrayList<>();
        String row = rows(name).get(0);
        String[] words = names.get(name).split(" ");
        for (int w = 0; w < words.length; w++) {
            if (letters.indexOf(KINDS.charAt(row.charAt(2 + w) - '0')) >= 0) {
                found.add(fold(words[w]));
            }
        }
        return found;
    }

    int agree(int a, int b) {
        if (!isName(a) || !isName(b) || rows(a).isEmpty() || rows(b).isEmpty()) {
            return -1;
        }
        if (!lands.get(a).equals(lands.get(b)) || !ofKinds(a, "F").equals(ofKinds(b, "F"))) {
            return 0;
        }
        List<String> ones = ofKinds(a, "GI");
        List<String> others = ofKinds(b, "GI");
        for (int i = 0; i < ones.size() && i < others.size(); i++) {
            String one = ones.get(i);
            String other = others.get(i);
            boolean initial = one.length() == 1 && other.startsWith(one) || other.length() == 1 && one.startsWith(other);
            if (!one.equals(other) && !initial) {
                return 0;
            }
        }
        return 1;
    }

    int father(int name, int father) {
        if (!isName(name) || !isName(father) || name == father || !lands.get(name).equals(lands.get(father))
                || rows(name).isEmpty() || rows(father).isEmpty()) {
            return -1;
        }
        List<String> made = ofKinds(name, "M");
        List<String> given = ofKinds(father, "G");
        if (made.isEmpty() || given.isEmpty()) {
            return -1;
        }
        String ending = shapes[lands.get(name)].split(";")[3].replaceAll("[^a-z]", "");
        return made.get(0).equals(given.get(0) + ending) ? 1 : 0;
    }

    boolean table(int letter, int n) {
        if (letter < 0 || letter > 25 || !has(n) || !tape.substring(0, n).matches("[a-z]{0,3}")) {
            return false;
        }
        table[letter] = tape.substring(0, n);
        tape = "";
        return true;
    }

    int fallen() {
        int pairs = 0;
        for (int i = 0; i < names.size(); i++) {
            for (int j = 0; j < i; j++) {
                boolean alike = foldAll(List.of(names.get(i).split(" "))).equals(foldAll(List.of(names.get(j).split(" "))));
                pairs += !alike && put(i).equals(put(j)) ? 1 : 0;
            }
        }
        return pairs;
    }

    int count(int what) {
        int shaped = 0;
        for (String shape : shapes) {
            shaped += shape == null ? 0 : 1;
        }
        return what == 0 ? book.size() : what == 1 ? names.size() : what == 2 ? shaped : -1;
    }
}
