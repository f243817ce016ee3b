import java.util.NoSuchElementException;

/** A keeper of persons' names; ../shared/DOC.md says in numbered promises what each call does. */
public final class NameDesk {
    public static final int NONE = -1;

    private static final int NO_SUCH = -2;

    private static final int LANDS = 6;
    private static final int KINDS = 7;
    private static final String KIND_LETTERS = "TGPQFMI";
    private static final int TITLE = 0;
    private static final int GIVEN = 1;
    private static final int PLAIN_PARTICLE = 2;
    private static final int SORTED_PARTICLE = 3;
    private static final int FAMILY = 4;
    private static final int MADE = 5;
    private static final int INITIAL = 6;

    private static final int MAX_TAPE = 400;
    private static final int FEED = 20;
    private static final int MAX_SIGNS = 20;
    private static final int MAX_WORDS = 8;
    private static final int MAX_NAMES = 30;
    private static final int MAX_ENTRIES = 80;
    private static final int MAX_SLOTS = 8;
    private static final int MAX_ENDING = 6;
    private static final int LETTERS = 26;
    private static final int MAX_PUT = 3;
    private static final int MAX_LINE = MAX_WORDS * (MAX_SIGNS * MAX_PUT + 1);

    /** Stands among the SLOTS that may take the next WORD: the NAME may end there. */
    private static final int END = 1 << MAX_SLOTS;
    private static final int OPEN_MASK = 2 * END - 1;

    /** Greater than every sum of costs: it can't be read so. */
    private static final int FAR = 1000;
    private static final int HIDDEN_COST = 5;
    private static final int UNKNOWN_COST = 2;
    private static final int MADE_COST = 3;
    private static final int MAX_COST = MAX_WORDS * HIDDEN_COST;

    /** Eight WORDS can be laid into eight SLOTS in order in 15! / (8! 7!) ways at most. */
    private static final int MAX_ROWS = 6435;
    private static final int KIND_BITS = 3;
    private static final int KIND_MASK = 7;
    private static final int KINDS_SHIFT = 12;
    private static final int KINDS_MASK = (1 << KIND_BITS * MAX_WORDS) - 1;
    private static final int COST_SHIFT = 40;

    private static final int FAULT_SIGN = 1;
    private static final int FAULT_MUCH = 2;
    private static final int FAULT_TWICE = 3;

    private static final int CALL_LINE = 0;
    private static final int PUT_LINE = 1;
    private static final int KEY_LINE = 2;

    private final Tape tape = new Tape();
    private final Shape[] shapes = new Shape[LANDS];
    private final ShapeText shapeText = new ShapeText();
    /** Takes the next SHAPE that is told, so that a FAULT leaves the LAND's own as it was. */
    private Shape draft = new Shape();
    private final Book book = new Book();
    private final Word heard = new Word();
    private final Name[] names = new Name[MAX_NAMES];
    private int nameCount = 0;
    private final Reader reader = new Reader();
    /** The NAME whose READINGS the reader has listed, NONE if they may have changed. */
    private int listed = NONE;
    private final int[] ranking = new int[MAX_NAMES];
    private boolean ranked = false;
    private final Table letterTable = new Table();
    private final Line line = new Line();
    private final int[] chosen = new int[MAX_WORDS];

    public NameDesk() {
        for (int i = 0; i < LANDS; i++) {
            shapes[i] = new Shape();
        }
        for (int i = 0; i < MAX_NAMES; i++) {
            names[i] = new Name();
        }
    }

    public int feed(int a, int b, int c, int d, int e) {
        if (tape.size + FEED > MAX_TAPE) {
            return NONE;
        }
        tape.add(a);
        tape.add(b);
        tape.add(c);
        tape.add(d);
        tape.add(e);
        return tape.size;
    }

    public int shape(int land, int n) {
        if (!isLand(land) || !tape.holds(n)) {
            return NO_SUCH;
        }
        boolean right = shapeText.readInto(draft, tape.bytes, n);
        tape.size = 0;
        if (!right) {
            return NONE;
        }
        Shape old = shapes[land];
        shapes[land] = draft;
        draft = old;
        landChanged(land);
        return shapes[land].slots;
    }

    public int fault(int what) {
        if (what == 0) {
            return shapeText.faultFound;
        }
        return what == 1 ? shapeText.faultPlace : NONE;
    }

    public int know(int land, int kind, int n) {
        if (!isEntry(land, kind, n) || book.size >= MAX_ENTRIES || book.find(land, kind, heard) != NONE) {
            return NONE;
        }
        book.add(land, kind, heard);
        tape.size = 0;
        landChanged(land);
        return book.size;
    }

    public boolean forget(int land, int kind, int n) {
        if (!isEntry(land, kind, n)) {
            return false;
        }
        int entry = book.find(land, kind, heard);
        if (entry == NONE) {
            return false;
        }
        book.remove(entry);
        tape.size = 0;
        landChanged(land);
        return true;
    }

    public int name(int land, int n) {
        if (!isLand(land) || !tape.holds(n) || nameCount >= MAX_NAMES) {
            return NONE;
        }
        Name next = names[nameCount];
        if (!next.take(tape.bytes, n)) {
            return NONE;
        }
        next.land = land;
        next.fresh = false;
        next.putFresh = false;
        tape.size = 0;
        ranked = false;
        nameCount++;
        return nameCount - 1;
    }

    public int readings(int name, int cost) {
        if (!isName(name) || cost < 0) {
            return NONE;
        }
        listReadings(name);
        return reader.rowsUpTo(cost);
    }

    public int cost(int name, int r) {
        if (!isName(name)) {
            return NONE;
        }
        listReadings(name);
        return reader.costOfRow(r);
    }

    public int kind(int name, int r, int w) {
        if (!isName(name)) {
            return NONE;
        }
        listReadings(name);
        return reader.kindInRow(r, w);
    }

    public int look(int name, int what) throws IndexOutOfBoundsException, NoSuchElementException {
        if (!isName(name)) {
            throw new IndexOutOfBoundsException("no such NAME");
        }
        switch (what) {
            case 0:
                return names[name].land;
            case 1:
                return names[name].size;
            case 2:
                rank();
                return placeInRanking(name);
            case 3:
                return freshName(name).keySize;
            case 4:
                return lineOf(name, CALL_LINE).size;
            case 5:
                return lineOf(name, PUT_LINE).size;
            default:
                throw new NoSuchElementException("no such what");
        }
    }

    public int order(int k) {
        if (!isName(k)) {
            return NONE;
        }
        rank();
        return ranking[k];
    }

    public int sign(int name, int which, int k) {
        if (!isName(name) || which < CALL_LINE || which > KEY_LINE) {
            return NONE;
        }
        return lineOf(name, which).signAt(k);
    }

    public int agree(int a, int b) {
        if (!isName(a) || !isName(b)) {
            return NONE;
        }
        Name one = freshName(a);
        Name other = freshName(b);
        if (!one.read || !other.read) {
            return NONE;
        }
        return one.land == other.land && sameFamily(one, other) && fittingGiven(one, other) ? 1 : 0;
    }

    public int father(int name, int father) {
        if (!isName(name) || !isName(father) || name == father) {
            return NONE;
        }
        Name child = freshName(name);
        Name parent = freshName(father);
        if (child.land != parent.land) {
            return NONE;
        }
        int made = child.nextOf(1 << MADE, 0);
        int given = parent.nextOf(1 << GIVEN, 0);
        if (made == NONE || given == NONE) {
            return NONE;
        }
        return shapes[child.land].makes(parent.words[given], child.words[made]) ? 1 : 0;
    }

    public boolean table(int letter, int n) {
        if (!tape.holds(n) || !letterTable.change(letter, tape.bytes, n)) {
            return false;
        }
        tape.size = 0;
        for (int i = 0; i < MAX_NAMES; i++) {
            names[i].putFresh = false;
        }
        return true;
    }

    public int fallen() {
        int pairs = 0;
        for (int i = 0; i < nameCount; i++) {
            for (int j = 0; j < i; j++) {
                if (putLine(names[i]).alike(putLine(names[j])) && !names[i].alikeFolded(names[j])) {
                    pairs++;
                }
            }
        }
        return pairs;
    }

    public int count(int what) {
        switch (what) {
            case 0:
                return book.size;
            case 1:
                return nameCount;
            case 2:
                return shapeCount();
            default:
                return NONE;
        }
    }

    private static boolean isLand(int land) {
        return land >= 0 && land < LANDS;
    }

    private boolean isName(int name) {
        return name >= 0 && name < nameCount;
    }

    /** Whether the call names what an entry can be; its WORD is in heard then. */
    private boolean isEntry(int land, int kind, int n) {
        return isLand(land) && kind >= TITLE && kind <= FAMILY && tape.holds(n) && heard.take(tape.bytes, 0, n);
    }

    private int shapeCount() {
        int sum = 0;
        for (int i = 0; i < LANDS; i++) {
            sum += shapes[i].slots > 0 ? 1 : 0;
        }
        return sum;
    }

    private void landChanged(int land) {
        for (int i = 0; i < nameCount; i++) {
            if (names[i].land == land) {
                names[i].fresh = false;
            }
        }
        listed = NONE;
        ranked = false;
    }

    private void listReadings(int name) {
        if (listed != name) {
            Name wanted = names[name];
            reader.weigh(wanted, shapes[wanted.land], book);
            reader.listRows();
            listed = name;
        }
    }

    /** The NAME with the READING and the KEY that it has now. */
    private Name freshName(int name) {
        Name wanted = names[name];
        if (!wanted.fresh) {
            Shape shape = shapes[wanted.land];
            // The reader weighs another NAME now, so what it listed no longer fits it.
            listed = NONE;
            reader.weigh(wanted, shape, book);
            wanted.read = reader.readFirst(wanted.kinds);
            wanted.keySize = wanted.choose(shape.sort, shape.sortSize, wanted.key);
            wanted.fresh = true;
        }
        return wanted;
    }

    private void rank() {
        if (ranked) {
            return;
        }
        for (int i = 0; i < nameCount; i++) {
            Name next = freshName(i);
            int place = i;
            while (place > 0 && next.isBefore(names[ranking[place - 1]])) {
                ranking[place] = ranking[place - 1];
                place--;
            }
            ranking[place] = i;
        }
        ranked = true;
    }

    private int placeInRanking(int name) {
        for (int k = 0; k < nameCount; k++) {
            if (ranking[k] == name) {
                return k;
            }
        }
        return NONE;
    }

    private Line lineOf(int name, int which) {
        if (which == PUT_LINE) {
            return putLine(names[name]);
        }
        Name wanted = freshName(name);
        line.size = 0;
        if (which == KEY_LINE) {
            for (int i = 0; i < wanted.keySize; i++) {
                line.addWord(wanted.words[wanted.key[i]].folded, wanted.words[wanted.key[i]].letters, i);
            }
            return line;
        }
        Shape shape = shapes[wanted.land];
        int size = wanted.choose(shape.call, shape.callSize, chosen);
        for (int i = 0; i < size; i++) {
            line.addWord(wanted.words[chosen[i]].told, wanted.words[chosen[i]].signs, i);
        }
        return line;
    }

    private Line putLine(Name wanted) {
        if (!wanted.putFresh) {
            wanted.put.size = 0;
            for (int w = 0; w < wanted.size; w++) {
                letterTable.putOver(wanted.words[w], w, wanted.put);
            }
            wanted.putFresh = true;
        }
        return wanted.put;
    }

    private static boolean sameFamily(Name one, Name other) {
        int a = one.nextOf(1 << FAMILY, 0);
        int b = other.nextOf(1 << FAMILY, 0);
        for (int turn = 0; turn < MAX_WORDS && a != NONE && b != NONE; turn++) {
            if (!one.words[a].alike(other.words[b])) {
                return false;
            }
            a = one.nextOf(1 << FAMILY, a + 1);
            b = other.nextOf(1 << FAMILY, b + 1);
        }
        return a == NONE && b == NONE;
    }

    private static boolean fittingGiven(Name one, Name other) {
        int kinds = 1 << GIVEN | 1 << INITIAL;
        int a = one.nextOf(kinds, 0);
        int b = other.nextOf(kinds, 0);
        for (int turn = 0; turn < MAX_WORDS && a != NONE && b != NONE; turn++) {
            if (!one.words[a].fits(other.words[b])) {
                return false;
            }
            a = one.nextOf(kinds, a + 1);
            b = other.nextOf(kinds, b + 1);
        }
        return true;
    }

    private static boolean isSmall(int sign) {
        return sign >= 'a' && sign <= 'z';
    }

    private static boolean isBig(int sign) {
        return sign >= 'A' && sign <= 'Z';
    }

    private static final class Tape {
        final byte[] bytes = new byte[MAX_TAPE];
        int size = 0;

        boolean holds(int n) {
            return n >= 0 && n <= size;
        }

        void add(int number) {
            for (int shift = 24; shift >= 0 && size < MAX_TAPE; shift -= 8) {
                bytes[size] = (byte) (number >> shift);
                size++;
            }
        }
    }

    private static final class Word {
        final byte[] told = new byte[MAX_SIGNS + 1];
        int signs = 0;
        final byte[] folded = new byte[MAX_SIGNS];
        int letters = 0;

        /** Whether the text from start to ahead of end is a WORD; else what this holds is of no use. */
        boolean take(byte[] text, int start, int end) {
            signs = 0;
            letters = 0;
            if (start < 0 || end <= start || end > text.length || end - start > MAX_SIGNS + 1) {
                return false;
            }
            int stop = text[end - 1] == '.' ? end - 1 : end;
            if (stop - start > MAX_SIGNS) {
                return false;
            }
            for (int i = start; i < stop; i++) {
                if (!takeSign(text[i])) {
                    return false;
                }
            }
            if (stop < end && signs <= MAX_SIGNS) {
                told[signs] = '.';
                signs++;
            }
            return letters > 0;
        }

        private boolean takeSign(byte sign) {
            if (signs >= MAX_SIGNS || letters >= MAX_SIGNS) {
                return false;
            }
            if (isSmall(sign)) {
                folded[letters] = sign;
                letters++;
            } else if (isBig(sign)) {
                folded[letters] = (byte) (sign - 'A' + 'a');
                letters++;
            } else if (letters == 0 || (sign != '\'' && sign != '-')) {
                return false;
            }
            told[signs] = sign;
            signs++;
            return true;
        }

        void copyLetters(Word other) {
            for (int i = 0; i < MAX_SIGNS; i++) {
                folded[i] = other.folded[i];
            }
            letters = other.letters;
        }

        /** Whether this, FOLDED, is the first letters of the other, as many as told. */
        boolean isBeginning(Word other, int many) {
            if (letters != many || other.letters < many) {
                return false;
            }
            for (int i = 0; i < letters; i++) {
                if (folded[i] != other.folded[i]) {
                    return false;
                }
            }
            return true;
        }

        boolean alike(Word other) {
            return isBeginning(other, other.letters);
        }

        boolean fits(Word other) {
            return alike(other) || isBeginning(other, 1) || other.isBeginning(this, 1);
        }

        boolean endsWith(byte[] ending, int many) {
            if (many > ending.length || many > letters) {
                return false;
            }
            for (int i = 0; i < many; i++) {
                if (folded[letters - many + i] != ending[i]) {
                    return false;
                }
            }
            return true;
        }

        /** Below 0 if this is less, above 0 if it is greater. */
        int compareLetters(Word other) {
            for (int i = 0; i < letters && i < other.letters; i++) {
                if (folded[i] != other.folded[i]) {
                    return folded[i] - other.folded[i];
                }
            }
            return letters - other.letters;
        }
    }

    private static final class Name {
        int land = 0;
        int size = 0;
        final Word[] words = new Word[MAX_WORDS];
        /** Whether the four below are those of the SHAPE and the BOOK as they are now. */
        boolean fresh = false;
        boolean read = false;
        final int[] kinds = new int[MAX_WORDS];
        final int[] key = new int[MAX_WORDS];
        int keySize = 0;
        /** Whether the line below is that of the TABLE as it is now. */
        boolean putFresh = false;
        final Line put = new Line();

        Name() {
            for (int i = 0; i < MAX_WORDS; i++) {
                words[i] = new Word();
            }
        }

        /** Whether the first n bytes are a NAME's WORDS; else what this holds is of no use. */
        boolean take(byte[] text, int n) {
            size = 0;
            int start = 0;
            for (int i = 0; i <= n && n <= text.length; i++) {
                if (i < n && text[i] != ' ') {
                    continue;
                }
                if (size >= MAX_WORDS || !words[size].take(text, start, i)) {
                    return false;
                }
                size++;
                start = i + 1;
            }
            return size > 0;
        }

        /** The first WORD from the place told on that READING has as one of these KINDS. */
        int nextOf(int kindBits, int from) {
            if (!read || from < 0) {
                return NONE;
            }
            for (int w = from; w < size; w++) {
                if ((kindBits >> kinds[w] & 1) != 0) {
                    return w;
                }
            }
            return NONE;
        }

        /** Writes the WORDS of the KINDS that the letters tell, in their order, into the row: how many. */
        int choose(int[] letters, int many, int[] row) {
            int count = 0;
            for (int i = 0; i < many && read; i++) {
                for (int w = 0; w < size; w++) {
                    if (kinds[w] == letters[i] && count < row.length) {
                        row[count] = w;
                        count++;
                    }
                }
            }
            return count;
        }

        /** Whether this one is ahead in ORDER of one with a lesser number. */
        boolean isBefore(Name other) {
            if (!read || !other.read) {
                return read;
            }
            for (int i = 0; i < keySize && i < other.keySize; i++) {
                int difference = words[key[i]].compareLetters(other.words[other.key[i]]);
                if (difference != 0) {
                    return difference < 0;
                }
            }
            return keySize < other.keySize;
        }

        boolean alikeFolded(Name other) {
            if (size != other.size) {
                return false;
            }
            for (int w = 0; w < size; w++) {
                if (!words[w].alike(other.words[w])) {
                    return false;
                }
            }
            return true;
        }
    }

    private static final class Line {
        final byte[] signs = new byte[MAX_LINE];
        int size = 0;

        void add(byte sign) {
            if (size < MAX_LINE) {
                signs[size] = sign;
                size++;
            }
        }

        /** A WORD's signs, behind a blank if WORDS are ahead of it. */
        void addWord(byte[] from, int many, int ahead) {
            if (ahead > 0) {
                add((byte) ' ');
            }
            for (int i = 0; i < many && i < from.length; i++) {
                add(from[i]);
            }
        }

        int signAt(int k) {
            return k >= 0 && k < size ? signs[k] : NONE;
        }

        boolean alike(Line other) {
            if (size != other.size) {
                return false;
            }
            for (int i = 0; i < size; i++) {
                if (signs[i] != other.signs[i]) {
                    return false;
                }
            }
            return true;
        }
    }

    private static final class Table {
        private final byte[] become = new byte[LETTERS * MAX_PUT];
        private final int[] sizes = new int[LETTERS];

        Table() {
            for (int i = 0; i < LETTERS; i++) {
                become[i * MAX_PUT] = (byte) ('a' + i);
                sizes[i] = 1;
            }
        }

        boolean change(int letter, byte[] text, int n) {
            if (letter < 0 || letter >= LETTERS || n < 0 || n > MAX_PUT || n > text.length) {
                return false;
            }
            for (int i = 0; i < n; i++) {
                if (!isSmall(text[i])) {
                    return false;
                }
            }
            for (int i = 0; i < n; i++) {
                become[letter * MAX_PUT + i] = text[i];
            }
            sizes[letter] = n;
            return true;
        }

        void putOver(Word word, int ahead, Line line) {
            if (ahead > 0) {
                line.add((byte) ' ');
            }
            for (int i = 0; i < word.letters; i++) {
                int letter = word.folded[i] - 'a';
                if (letter >= 0 && letter < LETTERS) {
                    for (int j = 0; j < sizes[letter]; j++) {
                        line.add(become[letter * MAX_PUT + j]);
                    }
                }
            }
        }
    }

    private static final class Book {
        private final Word[] words = new Word[MAX_ENTRIES];
        private final int[] lands = new int[MAX_ENTRIES];
        private final int[] kinds = new int[MAX_ENTRIES];
        int size = 0;

        Book() {
            for (int i = 0; i < MAX_ENTRIES; i++) {
                words[i] = new Word();
            }
        }

        int find(int land, int kind, Word word) {
            for (int i = 0; i < size; i++) {
                if (lands[i] == land && kinds[i] == kind && words[i].alike(word)) {
                    return i;
                }
            }
            return NONE;
        }

        void add(int land, int kind, Word word) {
            if (size < MAX_ENTRIES) {
                words[size].copyLetters(word);
                lands[size] = land;
                kinds[size] = kind;
                size++;
            }
        }

        void remove(int entry) {
            if (entry < 0 || entry >= size) {
                return;
            }
            int last = size - 1;
            Word gone = words[entry];
            words[entry] = words[last];
            words[last] = gone;
            lands[entry] = lands[last];
            kinds[entry] = kinds[last];
            size = last;
        }

        /** The KINDS, a bit for each, that the LAND has the WORD's first letters as. */
        int kindsOf(int land, Word word, int many) {
            int bits = 0;
            for (int i = 0; i < size; i++) {
                if (lands[i] == land && words[i].isBeginning(word, many)) {
                    bits |= 1 << kinds[i];
                }
            }
            return bits;
        }
    }

    /** A LAND's SHAPE; one with no SLOTS is none. */
    private static final class Shape {
        int slots = 0;
        final int[] slotKinds = new int[MAX_SLOTS];
        final boolean[] slotSkips = new boolean[MAX_SLOTS];
        final boolean[] slotRepeats = new boolean[MAX_SLOTS];
        /** The SLOTS, a bit for each, that may take the first WORD. */
        int first = 0;
        /** The SLOTS that may take the WORD behind one that lies in this SLOT. */
        final int[] behind = new int[MAX_SLOTS];
        private final int[] slotsOfKind = new int[KINDS];
        final int[] sort = new int[KINDS];
        int sortSize = 0;
        final int[] call = new int[KINDS];
        int callSize = 0;
        final byte[] ending = new byte[MAX_ENDING];
        int endingSize = 0;

        /** To be called when the SLOTS have been read. */
        void link() {
            for (int k = 0; k < KINDS; k++) {
                slotsOfKind[k] = 0;
            }
            first = openFrom(0);
            for (int s = 0; s < slots; s++) {
                slotsOfKind[slotKinds[s]] |= 1 << s;
                behind[s] = openFrom(s + 1) | (slotRepeats[s] ? 1 << s : 0);
            }
        }

        private int openFrom(int slot) {
            int open = 0;
            for (int s = slot; s < slots; s++) {
                open |= 1 << s;
                if (!slotSkips[s]) {
                    return open;
                }
            }
            return open | END;
        }

        /** The SLOTS that are open behind a WORD of this KIND, if these are open for it. */
        int openBehind(int open, int kind) {
            int taking = open & slotsOfKind[kind];
            int next = 0;
            for (int s = 0; s < MAX_SLOTS && taking >> s != 0; s++) {
                if ((taking >> s & 1) != 0) {
                    next |= behind[s];
                }
            }
            return next;
        }

        boolean isMade(Word word) {
            return endingSize > 0 && word.letters > endingSize && word.endsWith(ending, endingSize);
        }

        boolean makes(Word given, Word made) {
            return isMade(made) && given.isBeginning(made, made.letters - endingSize);
        }
    }

    /** Reads a SHAPE's TEXT and keeps the FAULT that it met. */
    private static final class ShapeText {
        private byte[] text = new byte[0];
        private int length = 0;
        private int at = 0;
        int faultFound = 0;
        int faultPlace = NONE;

        boolean readInto(Shape shape, byte[] bytes, int n) {
            text = bytes;
            length = Math.min(n, bytes.length);
            at = 0;
            faultFound = 0;
            faultPlace = NONE;
            if (!readSlots(shape)) {
                return false;
            }
            shape.sortSize = readLetters(shape.sort);
            if (shape.sortSize == NONE) {
                return false;
            }
            shape.callSize = readLetters(shape.call);
            if (shape.callSize == NONE) {
                return false;
            }
            if (!readEnding(shape) || !pass('.')) {
                return false;
            }
            if (at < length) {
                return stopWith(FAULT_SIGN);
            }
            shape.link();
            return true;
        }

        /** The sign at this place, NONE behind the last. */
        private int here() {
            return at >= 0 && at < length ? text[at] & 255 : NONE;
        }

        private int kindHere() {
            int sign = here();
            return sign == NONE ? NONE : KIND_LETTERS.indexOf((char) sign);
        }

        private boolean stopWith(int faultNumber) {
            faultFound = faultNumber;
            faultPlace = at;
            return false;
        }

        private boolean pass(char sign) {
            if (here() != sign) {
                return stopWith(FAULT_SIGN);
            }
            at++;
            return true;
        }

        private boolean readSlots(Shape shape) {
            shape.slots = 0;
            for (int s = 0; s <= MAX_SLOTS; s++) {
                int kindRead = kindHere();
                if (kindRead == NONE) {
                    return s > 0 ? pass(';') : stopWith(FAULT_SIGN);
                }
                if (s == MAX_SLOTS) {
                    break;
                }
                at++;
                int mark = here();
                shape.slotKinds[s] = kindRead;
                shape.slotSkips[s] = mark == '?' || mark == '*';
                shape.slotRepeats[s] = mark == '*' || mark == '+';
                shape.slots++;
                if (shape.slotSkips[s] || shape.slotRepeats[s]) {
                    at++;
                }
            }
            return stopWith(FAULT_MUCH);
        }

        /** SORT or CALL with the ; behind it: how many letters, NONE with a FAULT. */
        private int readLetters(int[] row) {
            int seen = 0;
            for (int i = 0; i < row.length + 1; i++) {
                int kindRead = kindHere();
                if (kindRead == NONE) {
                    boolean ended = i > 0 ? pass(';') : stopWith(FAULT_SIGN);
                    return ended ? i : NONE;
                }
                // With all KINDS seen every letter more is one of them again.
                if ((seen >> kindRead & 1) != 0 || i >= row.length) {
                    break;
                }
                seen |= 1 << kindRead;
                row[i] = kindRead;
                at++;
            }
            stopWith(FAULT_TWICE);
            return NONE;
        }

        private boolean readEnding(Shape shape) {
            shape.endingSize = 0;
            if (here() == '-') {
                at++;
                return true;
            }
            for (int i = 0; i < MAX_ENDING; i++) {
                if (!isSmall(here())) {
                    return i > 0 || stopWith(FAULT_SIGN);
                }
                shape.ending[i] = (byte) here();
                shape.endingSize++;
                at++;
            }
            return !isSmall(here()) || stopWith(FAULT_MUCH);
        }
    }

    /** Finds the READINGS of the NAME that was weighed last. */
    private static final class Reader {
        private Shape shape = new Shape();
        private int size = 0;
        private final int[][] costs = new int[MAX_WORDS][KINDS];
        /** The least COST of a WORD in a SLOT and all WORDS behind it. */
        private final int[][] least = new int[MAX_WORDS][MAX_SLOTS];
        /** Of each row the COST, the KINDS and the SLOTS open behind it, in this order from the highest bits on. */
        private long[] rows = new long[MAX_ROWS];
        private long[] spare = new long[MAX_ROWS];
        private int rowCount = 0;
        private final int[] upTo = new int[MAX_COST + 1];

        void weigh(Name name, Shape nameShape, Book book) {
            shape = nameShape;
            size = Math.min(name.size, MAX_WORDS);
            for (int w = 0; w < size; w++) {
                weighWord(name.words[w], name.land, book, costs[w]);
            }
            for (int w = size - 1; w >= 0; w--) {
                for (int s = 0; s < shape.slots; s++) {
                    int sum = costs[w][shape.slotKinds[s]] + leastFrom(w + 1, shape.behind[s]);
                    least[w][s] = Math.min(sum, FAR);
                }
            }
        }

        private void weighWord(Word word, int land, Book book, int[] row) {
            int known = book.kindsOf(land, word, word.letters);
            boolean hidden = (known & (1 << TITLE | 1 << PLAIN_PARTICLE | 1 << SORTED_PARTICLE)) != 0;
            for (int k = TITLE; k <= FAMILY; k++) {
                if ((known >> k & 1) != 0) {
                    row[k] = 0;
                } else if (k == GIVEN || k == FAMILY) {
                    row[k] = hidden ? HIDDEN_COST : UNKNOWN_COST;
                } else {
                    row[k] = FAR;
                }
            }
            row[MADE] = FAR;
            if (shape.isMade(word)) {
                int ahead = book.kindsOf(land, word, word.letters - shape.endingSize);
                row[MADE] = (ahead >> GIVEN & 1) != 0 ? 0 : MADE_COST;
            }
            row[INITIAL] = word.letters == 1 ? 0 : FAR;
        }

        /** The least COST of the WORDS from w on, the first of them in one of the open SLOTS. */
        private int leastFrom(int w, int open) {
            if (w >= size) {
                return (open & END) != 0 ? 0 : FAR;
            }
            int best = FAR;
            for (int s = 0; s < MAX_SLOTS; s++) {
                if ((open >> s & 1) != 0) {
                    best = Math.min(best, least[w][s]);
                }
            }
            return best;
        }

        /** Whether there is a READING; writes its KINDS into the row. */
        boolean readFirst(int[] kinds) {
            int open = shape.first;
            int left = leastFrom(0, open);
            if (left >= FAR) {
                return false;
            }
            for (int w = 0; w < size && w < kinds.length; w++) {
                for (int k = 0; k < KINDS; k++) {
                    int next = shape.openBehind(open, k);
                    // Of the KINDS that come to the least COST the lowest number is first.
                    if (costs[w][k] + leastFrom(w + 1, next) == left) {
                        kinds[w] = k;
                        left -= costs[w][k];
                        open = next;
                        break;
                    }
                }
            }
            return true;
        }

        /** Lists all READINGS in their order. */
        void listRows() {
            rowCount = 0;
            if (leastFrom(0, shape.first) < FAR) {
                rows[0] = shape.first;
                rowCount = 1;
            }
            for (int w = 0; w < size; w++) {
                lengthenRows(w);
            }
            sortByCost();
        }

        private void swapRows() {
            long[] old = rows;
            rows = spare;
            spare = old;
        }

        /** Puts each KIND that the WORD can have behind each row; what was in order of KINDS stays so. */
        private void lengthenRows(int w) {
            int longer = 0;
            for (int i = 0; i < rowCount; i++) {
                long row = rows[i];
                int open = (int) row & OPEN_MASK;
                for (int k = 0; k < KINDS; k++) {
                    int next = shape.openBehind(open, k);
                    if (costs[w][k] + leastFrom(w + 1, next) < FAR && longer < MAX_ROWS) {
                        long cost = (row >> COST_SHIFT) + costs[w][k];
                        long kinds = (row >> KINDS_SHIFT & KINDS_MASK) << KIND_BITS | k;
                        spare[longer] = cost << COST_SHIFT | kinds << KINDS_SHIFT | next;
                        longer++;
                    }
                }
            }
            swapRows();
            rowCount = longer;
        }

        /** Rows of like COST stay in the order that they have. */
        private void sortByCost() {
            for (int c = 0; c <= MAX_COST; c++) {
                upTo[c] = 0;
            }
            for (int i = 0; i < rowCount; i++) {
                upTo[costIn(rows[i])]++;
            }
            for (int c = 1; c <= MAX_COST; c++) {
                upTo[c] += upTo[c - 1];
            }
            // From the last row on, so that upTo can count down to each COST's first place.
            for (int i = rowCount - 1; i >= 0; i--) {
                int c = costIn(rows[i]);
                upTo[c]--;
                spare[upTo[c]] = rows[i];
            }
            swapRows();
            // Each COST's first place is now how many rows have less.
            for (int c = 0; c < MAX_COST; c++) {
                upTo[c] = upTo[c + 1];
            }
            upTo[MAX_COST] = rowCount;
        }

        private static int costIn(long row) {
            return Math.max(0, Math.min((int) (row >> COST_SHIFT), MAX_COST));
        }

        int rowsUpTo(int most) {
            return upTo[Math.max(0, Math.min(most, MAX_COST))];
        }

        private boolean isRow(int r) {
            return r >= 0 && r < rowCount;
        }

        int costOfRow(int r) {
            return isRow(r) ? costIn(rows[r]) : NONE;
        }

        int kindInRow(int r, int w) {
            if (!isRow(r) || w < 0 || w >= size) {
                return NONE;
            }
            return (int) (rows[r] >> KINDS_SHIFT + KIND_BITS * (size - 1 - w)) & KIND_MASK;
        }
    }
}
