/**
 * Texts of characters whose properties are told by a table: brought into their parted and their
 * joined form, cut into clusters and lines, ordered for reading from both sides, and compared by
 * keys.
 *
 * <p>All rows are made once, with the object, and used again by every call.
 */
public final class TextPipeline {
    private static final int TEXT_LIMIT = 40;
    private static final int SLOTS = 4;

    private final Table table;
    private final Row text;
    private final Row[] kept;
    private final Row form;
    private final Row keptForm;
    private final Row numbers;
    private final Row keptNumbers;
    private final Lines lines;
    private final Sides sides;

    public TextPipeline() {
        table = new Table();
        text = new Row(TEXT_LIMIT);
        kept = new Row[SLOTS];
        for (int k = 0; k < SLOTS; k++) {
            kept[k] = new Row(TEXT_LIMIT);
        }
        form = new Row(Forms.LIMIT);
        keptForm = new Row(Forms.LIMIT);
        numbers = new Row(Keys.LIMIT);
        keptNumbers = new Row(Keys.LIMIT);
        lines = new Lines();
        sides = new Sides();
    }

    public void set(int c, int what, int v) throws IllegalArgumentException {
        if (!Table.isSettable(c) || !Table.isInRange(what, v)) {
            throw new IllegalArgumentException("no such character, property or value");
        }
        table.change(c, what, v);
    }

    public void part(int c, int a, int b, boolean excluded)
            throws IllegalArgumentException, IllegalStateException {
        if (!Table.isParting(c, a, b)) {
            throw new IllegalArgumentException("no such parting");
        }
        if (!table.staysSmall(c, a, b)) {
            throw new IllegalStateException("a character would be parted into more than four");
        }
        table.changeParting(c, a, b, excluded);
    }

    public int type(int c) throws IllegalArgumentException, IllegalStateException {
        if (c < 0 || c >= Table.CHARACTERS) {
            throw new IllegalArgumentException("no such character");
        }
        if (text.size() >= TEXT_LIMIT) {
            throw new IllegalStateException("the text is full");
        }
        text.add(c);
        return text.size();
    }

    public void wipe() {
        text.cutTo(0);
    }

    public int bring(boolean joined) throws IllegalStateException {
        Forms.fillParted(table, text, form);
        if (joined) {
            Forms.joinAll(table, form);
        }
        if (form.size() > TEXT_LIMIT) {
            throw new IllegalStateException("the form is too long for a text");
        }
        text.copyOf(form);
        return text.size();
    }

    public int at(int i) throws IndexOutOfBoundsException {
        requireCharacter(i);
        return text.item(i);
    }

    public boolean cluster(int i) throws IndexOutOfBoundsException {
        requirePlace(i);
        return Clusters.endsBefore(table, text, i);
    }

    public int clusters() {
        int count = 0;
        for (int place = 1; place <= text.size(); place++) {
            if (Clusters.endsBefore(table, text, place)) {
                count++;
            }
        }
        return count;
    }

    public int line(int i) throws IndexOutOfBoundsException {
        requirePlace(i);
        return lines.endBefore(table, text, i);
    }

    public int level(int i, int base) throws IndexOutOfBoundsException {
        requireCharacter(i);
        sides.findLevels(table, text, base);
        return sides.levelOf(i);
    }

    public int order(int i, int base) throws IndexOutOfBoundsException {
        requireCharacter(i);
        sides.findLevels(table, text, base);
        sides.findOrder(text.size());
        return sides.readAs(i);
    }

    public int key() {
        fillOwnKey();
        return numbers.size();
    }

    public int keyAt(int i) throws IndexOutOfBoundsException {
        fillOwnKey();
        if (i < 0 || i >= numbers.size()) {
            throw new IndexOutOfBoundsException("the key has no such number");
        }
        return numbers.item(i);
    }

    public void keep(int k) throws IndexOutOfBoundsException {
        requireSlot(k);
        kept[k].copyOf(text);
    }

    public int compare(int k) throws IndexOutOfBoundsException {
        requireSlot(k);
        fillOwnKey();
        Forms.fillParted(table, kept[k], keptForm);
        Keys.fill(table, keptForm, keptNumbers);
        return numbers.comparedWith(keptNumbers);
    }

    public boolean same(int k) throws IndexOutOfBoundsException {
        requireSlot(k);
        Forms.fillParted(table, text, form);
        Forms.fillParted(table, kept[k], keptForm);
        return form.comparedWith(keptForm) == 0;
    }

    private void fillOwnKey() {
        Forms.fillParted(table, text, form);
        Keys.fill(table, form, numbers);
    }

    private void requireCharacter(int i) {
        if (i < 0 || i >= text.size()) {
            throw new IndexOutOfBoundsException("the text has no such character");
        }
    }

    private void requirePlace(int i) {
        if (i < 0 || i > text.size()) {
            throw new IndexOutOfBoundsException("the text has no such place");
        }
    }

    private static void requireSlot(int k) {
        if (k < 0 || k >= SLOTS) {
            throw new IndexOutOfBoundsException("no such slot");
        }
    }

    /** Numbers in a row, as many as its limit at most. */
    private static final class Row {
        private final int[] items;
        private int size;

        Row(int limit) {
            items = new int[limit];
        }

        int size() {
            return size;
        }

        int item(int i) {
            return items[i];
        }

        void put(int i, int item) {
            items[i] = item;
        }

        void add(int item) {
            insert(size, item);
        }

        void insert(int place, int item) {
            if (size >= items.length || place < 0 || place > size) {
                return;
            }
            for (int i = size; i > place; i--) {
                items[i] = items[i - 1];
            }
            items[place] = item;
            size++;
        }

        void cutTo(int length) {
            size = Math.min(size, Math.max(length, 0));
        }

        void copyOf(Row other) {
            int length = Math.min(other.size, items.length);
            for (int i = 0; i < length; i++) {
                items[i] = other.items[i];
            }
            size = length;
        }

        int comparedWith(Row other) {
            int shared = Math.min(size, other.size);
            for (int i = 0; i < shared; i++) {
                if (items[i] != other.items[i]) {
                    return items[i] < other.items[i] ? -1 : 1;
                }
            }
            return Integer.compare(size, other.size);
        }
    }

    /** What is known of each character: its properties and what it is parted into. */
    private static final class Table {
        static final int CHARACTERS = 75;
        static final int PARTS_LIMIT = 4;
        static final int WEIGHTS = 3;
        static final int NOTHING = -1;

        private static final int SETTABLE = 40;
        private static final int LEAD = 40;
        private static final int VOWEL = 43;
        private static final int TAIL = 46;
        private static final int SYLLABLE = 48;
        private static final int TAILS_AND_NONE = 3;
        private static final int VOWELS_AND_TAILS = 9;

        private static final int RANK = 0;
        private static final int CLUSTER = 1;
        private static final int LINE = 2;
        private static final int SIDE = 3;
        private static final int FIRST_WEIGHT = 4;
        private static final int[] GREATEST = {254, 9, 12, 11, 999, 999, 999};

        private static final int FIXED_LINE = 10;
        private static final int FIXED_WEIGHT = 1000;

        private final int[][] properties;
        private final int[] firstPart;
        private final int[] secondPart;
        private final boolean[] excluded;
        // What a character is parted into in the end: PARTS_LIMIT places for each.
        private final int[] parts;
        private final int[] partCount;
        private final int[] triedCount;

        Table() {
            properties = new int[GREATEST.length][CHARACTERS];
            firstPart = new int[CHARACTERS];
            secondPart = new int[CHARACTERS];
            excluded = new boolean[CHARACTERS];
            parts = new int[CHARACTERS * PARTS_LIMIT];
            partCount = new int[CHARACTERS];
            triedCount = new int[CHARACTERS];
            fillFixedProperties();
            fillPartings();
            partAll();
        }

        static boolean isSettable(int c) {
            return c >= 0 && c < SETTABLE;
        }

        static boolean isInRange(int what, int v) {
            return what >= 0 && what < GREATEST.length && v >= 0 && v <= GREATEST[what];
        }

        static boolean isParting(int c, int a, int b) {
            if (!isSettable(c) || a < NOTHING || a >= c || b < NOTHING || b >= c) {
                return false;
            }
            return a != NOTHING || b == NOTHING;
        }

        static boolean isLead(int c) {
            return c >= LEAD && c < VOWEL;
        }

        static boolean isVowel(int c) {
            return c >= VOWEL && c < TAIL;
        }

        static boolean isTail(int c) {
            return c >= TAIL && c < SYLLABLE;
        }

        static boolean isSyllable(int c) {
            return c >= SYLLABLE;
        }

        static boolean hasTail(int c) {
            return isSyllable(c) && (c - SYLLABLE) % TAILS_AND_NONE != 0;
        }

        void change(int c, int what, int v) {
            properties[what][c] = v;
        }

        boolean staysSmall(int c, int a, int b) {
            for (int i = 0; i < SETTABLE; i++) {
                int first = i == c ? a : firstPart[i];
                int second = i == c ? b : secondPart[i];
                triedCount[i] = first == NOTHING ? 1 : triedCount[first];
                if (second != NOTHING) {
                    triedCount[i] += triedCount[second];
                }
                if (triedCount[i] > PARTS_LIMIT) {
                    return false;
                }
            }
            return true;
        }

        void changeParting(int c, int a, int b, boolean isExcluded) {
            firstPart[c] = a;
            secondPart[c] = b;
            excluded[c] = isExcluded;
            partAll();
        }

        int rank(int c) {
            return properties[RANK][c];
        }

        int clusterClass(int c) {
            return properties[CLUSTER][c];
        }

        int lineClass(int c) {
            return properties[LINE][c];
        }

        int sideClass(int c) {
            return properties[SIDE][c];
        }

        int weight(int c, int which) {
            return properties[FIRST_WEIGHT + which][c];
        }

        int partsOf(int c) {
            return partCount[c];
        }

        int partOf(int c, int i) {
            return parts[c * PARTS_LIMIT + i];
        }

        int joinOf(int a, int b) {
            for (int c = 0; c < CHARACTERS; c++) {
                boolean isMadeOfBoth = firstPart[c] == a && secondPart[c] == b;
                if (isMadeOfBoth && properties[RANK][c] == 0 && !excluded[c]) {
                    return c;
                }
            }
            return NOTHING;
        }

        private void fillFixedProperties() {
            for (int c = SETTABLE; c < CHARACTERS; c++) {
                properties[LINE][c] = FIXED_LINE;
            }
            for (int c = SETTABLE; c < SYLLABLE; c++) {
                properties[FIRST_WEIGHT][c] = FIXED_WEIGHT + c;
                for (int which = 1; which < WEIGHTS; which++) {
                    properties[FIRST_WEIGHT + which][c] = 1;
                }
            }
        }

        private void fillPartings() {
            for (int c = 0; c < SYLLABLE; c++) {
                firstPart[c] = NOTHING;
                secondPart[c] = NOTHING;
            }
            for (int c = SYLLABLE; c < CHARACTERS; c++) {
                fillSyllable(c, c - SYLLABLE);
            }
        }

        // A syllable with a tail is held as the one without it and the tail: in the end that gives
        // the same three parts, and the joins of syllables need no rules of their own.
        private void fillSyllable(int c, int number) {
            int tail = number % TAILS_AND_NONE;
            if (tail == 0) {
                firstPart[c] = LEAD + number / VOWELS_AND_TAILS;
                secondPart[c] = VOWEL + number % VOWELS_AND_TAILS / TAILS_AND_NONE;
            } else {
                firstPart[c] = c - tail;
                secondPart[c] = TAIL + tail - 1;
            }
        }

        // Parts are less than what they are parts of, so theirs are known when they are needed.
        private void partAll() {
            for (int c = 0; c < CHARACTERS; c++) {
                partCount[c] = 0;
                if (firstPart[c] == NOTHING) {
                    addPart(c, c);
                } else {
                    addPartsOf(c, firstPart[c]);
                }
                if (secondPart[c] != NOTHING) {
                    addPartsOf(c, secondPart[c]);
                }
            }
        }

        private void addPartsOf(int c, int part) {
            for (int i = 0; i < partCount[part]; i++) {
                addPart(c, partOf(part, i));
            }
        }

        private void addPart(int c, int part) {
            if (partCount[c] < PARTS_LIMIT) {
                parts[c * PARTS_LIMIT + partCount[c]] = part;
                partCount[c]++;
            }
        }
    }

    /** The parted and the joined form. */
    private static final class Forms {
        static final int LIMIT = TEXT_LIMIT * Table.PARTS_LIMIT;

        static void fillParted(Table table, Row from, Row into) {
            into.cutTo(0);
            for (int i = 0; i < from.size(); i++) {
                int c = from.item(i);
                for (int part = 0; part < table.partsOf(c); part++) {
                    insertByRank(table, into, table.partOf(c, part));
                }
            }
        }

        static void joinAll(Table table, Row form) {
            int written = 0;
            for (int i = 0; i < form.size(); i++) {
                int c = form.item(i);
                int starter = openStarter(table, form, written, table.rank(c));
                int join = Table.NOTHING;
                if (starter != Table.NOTHING) {
                    join = table.joinOf(form.item(starter), c);
                }
                if (join == Table.NOTHING) {
                    form.put(written, c);
                    written++;
                } else {
                    form.put(starter, join);
                }
            }
            form.cutTo(written);
        }

        private static void insertByRank(Table table, Row form, int c) {
            int rank = table.rank(c);
            int place = form.size();
            while (rank != 0 && place > 0 && table.rank(form.item(place - 1)) > rank) {
                place--;
            }
            form.insert(place, c);
        }

        private static int openStarter(Table table, Row form, int end, int rank) {
            for (int i = end - 1; i >= 0; i--) {
                int between = table.rank(form.item(i));
                if (between == 0) {
                    return i;
                }
                if (between >= rank) {
                    return Table.NOTHING;
                }
            }
            return Table.NOTHING;
        }
    }

    /** Where clusters end. */
    private static final class Clusters {
        private static final int RETURN = 1;
        private static final int FEED = 2;
        private static final int CONTROL = 3;
        private static final int EXTEND = 4;
        private static final int JOINER = 5;
        private static final int REGION = 6;
        private static final int PREPEND = 7;
        private static final int SPACING = 8;
        private static final int PICTURE = 9;

        static boolean endsBefore(Table table, Row text, int place) {
            if (place <= 0 || place >= text.size()) {
                return true;
            }
            int x = table.clusterClass(text.item(place - 1));
            int y = table.clusterClass(text.item(place));
            if (x == RETURN && y == FEED) {
                return false;
            }
            if (standsAlone(x) || standsAlone(y)) {
                return true;
            }
            return !staysInSyllable(text.item(place - 1), text.item(place))
                    && !isAttached(x, y)
                    && !isJoinedPicture(table, text, place)
                    && !isSecondRegion(table, text, place);
        }

        private static boolean standsAlone(int kind) {
            return kind == RETURN || kind == FEED || kind == CONTROL;
        }

        private static boolean staysInSyllable(int x, int y) {
            if (Table.isLead(x)) {
                return Table.isLead(y) || Table.isVowel(y) || Table.isSyllable(y);
            }
            if (Table.isVowel(x) || Table.isSyllable(x) && !Table.hasTail(x)) {
                return Table.isVowel(y) || Table.isTail(y);
            }
            return (Table.isTail(x) || Table.hasTail(x)) && Table.isTail(y);
        }

        private static boolean isAttached(int x, int y) {
            return y == EXTEND || y == JOINER || y == SPACING || x == PREPEND;
        }

        private static boolean isJoinedPicture(Table table, Row text, int place) {
            if (table.clusterClass(text.item(place)) != PICTURE
                    || table.clusterClass(text.item(place - 1)) != JOINER) {
                return false;
            }
            int i = place - 2;
            while (i >= 0 && table.clusterClass(text.item(i)) == EXTEND) {
                i--;
            }
            return i >= 0 && table.clusterClass(text.item(i)) == PICTURE;
        }

        private static boolean isSecondRegion(Table table, Row text, int place) {
            if (table.clusterClass(text.item(place)) != REGION) {
                return false;
            }
            int i = place - 1;
            while (i >= 0 && table.clusterClass(text.item(i)) == REGION) {
                i--;
            }
            return (place - 1 - i) % 2 == 1;
        }
    }

    /** Where lines must, may or may not end. */
    private static final class Lines {
        private static final int NOT = 0;
        private static final int MAY = 1;
        private static final int MUST = 2;

        private static final int ALPHA = 0;
        private static final int END = 1;
        private static final int SPACE = 2;
        private static final int ZERO = 3;
        private static final int GLUE = 4;
        private static final int OPEN = 5;
        private static final int CLOSE = 6;
        private static final int QUOTE = 7;
        private static final int HYPHEN = 8;
        private static final int DIGIT = 9;
        private static final int MARK = 11;
        private static final int COMMA = 12;
        private static final int NO_CLASS = -1;

        private final int[] kinds;

        Lines() {
            kinds = new int[TEXT_LIMIT];
        }

        int endBefore(Table table, Row text, int place) {
            if (place <= 0) {
                return NOT;
            }
            if (place >= text.size()) {
                return MUST;
            }
            findKinds(table, text);
            boolean isMark = table.lineClass(text.item(place)) == MARK;
            return endBetween(kinds[place - 1], kinds[place], kindOverSpaces(place - 1), isMark);
        }

        // A MARK counts as what it stands behind, so each is found from the one in front of it.
        private void findKinds(Table table, Row text) {
            int before = NO_CLASS;
            for (int i = 0; i < text.size(); i++) {
                int kind = table.lineClass(text.item(i));
                if (kind == MARK) {
                    kind = before == NO_CLASS || isGap(before) ? ALPHA : before;
                }
                kinds[i] = kind;
                before = kind;
            }
        }

        private int kindOverSpaces(int last) {
            int i = last;
            while (i >= 0 && kinds[i] == SPACE) {
                i--;
            }
            return i < 0 ? NO_CLASS : kinds[i];
        }

        private static int endBetween(int x, int y, int overSpaces, boolean isMark) {
            if (x == END) {
                return MUST;
            }
            if (isGap(y)) {
                return NOT;
            }
            if (overSpaces == ZERO) {
                return MAY;
            }
            if (isMark && x == y || holdsOverSpaces(x, y, overSpaces)) {
                return NOT;
            }
            return x == SPACE || !holdsSideBySide(x, y) ? MAY : NOT;
        }

        private static boolean isGap(int kind) {
            return kind == END || kind == SPACE || kind == ZERO;
        }

        private static boolean isWord(int kind) {
            return kind == ALPHA || kind == DIGIT;
        }

        private static boolean holdsOverSpaces(int x, int y, int overSpaces) {
            if (x == GLUE || y == GLUE || y == CLOSE || y == COMMA) {
                return true;
            }
            return overSpaces == OPEN || overSpaces == QUOTE && y == OPEN;
        }

        private static boolean holdsSideBySide(int x, int y) {
            if (x == QUOTE || y == QUOTE || y == HYPHEN) {
                return true;
            }
            if (isWord(y)) {
                return isWord(x) || x == CLOSE || x == COMMA || x == HYPHEN && y == DIGIT;
            }
            return isWord(x) && y == OPEN;
        }
    }

    /** The levels of characters, and the order for reading from the left. */
    private static final class Sides {
        private static final int LEFT = 0;
        private static final int RIGHT = 1;
        private static final int ARAB = 2;
        private static final int NUMBER = 3;
        private static final int SIGNED = 4;
        private static final int UNIT = 5;
        private static final int ARABNUMBER = 6;
        private static final int POINT = 7;
        private static final int NONE = 8;
        private static final int WHITE = 9;
        private static final int TAB = 10;
        private static final int OTHER = 11;
        private static final int HIGHEST = 2;

        // Character i has kinds[i + 1]: the base's own class stands in front and behind.
        private final int[] kinds;
        private final int[] levels;
        private final int[] places;

        Sides() {
            kinds = new int[TEXT_LIMIT + 2];
            levels = new int[TEXT_LIMIT];
            places = new int[TEXT_LIMIT];
        }

        int levelOf(int i) {
            return levels[i];
        }

        int readAs(int i) {
            return places[i];
        }

        void findLevels(Table table, Row text, int asked) {
            int size = text.size();
            int base = asked == 0 || asked == 1 ? asked : baseOf(table, text);
            takeKinds(table, text, base == 0 ? LEFT : RIGHT);
            takeFromFront(size);
            changeArabs(size);
            joinNumbers(size);
            changeUnits(size);
            changeLeftNumbers(size);
            changeNeutrals(size);
            for (int i = 0; i < size; i++) {
                levels[i] = levelFor(kinds[i + 1], base);
            }
            resetGaps(table, text, base);
        }

        void findOrder(int size) {
            for (int i = 0; i < size; i++) {
                places[i] = i;
            }
            for (int level = HIGHEST; level >= 1; level--) {
                turnRows(size, level);
            }
        }

        private static int baseOf(Table table, Row text) {
            for (int i = 0; i < text.size(); i++) {
                int kind = table.sideClass(text.item(i));
                if (isLetter(kind)) {
                    return kind == LEFT ? 0 : 1;
                }
            }
            return 0;
        }

        private static boolean isLetter(int kind) {
            return kind == LEFT || kind == RIGHT || kind == ARAB;
        }

        private static boolean isNeutral(int kind) {
            return kind == WHITE || kind == TAB || kind == OTHER;
        }

        private static boolean readsRight(int kind) {
            return kind == RIGHT || kind == NUMBER || kind == ARABNUMBER;
        }

        private void takeKinds(Table table, Row text, int own) {
            kinds[0] = own;
            for (int i = 0; i < text.size(); i++) {
                kinds[i + 1] = table.sideClass(text.item(i));
            }
            kinds[text.size() + 1] = own;
        }

        private void takeFromFront(int size) {
            for (int i = 1; i <= size; i++) {
                if (kinds[i] == NONE) {
                    kinds[i] = kinds[i - 1];
                }
            }
        }

        // A changed ARAB is still remembered as one for the numbers behind it, so that steps (2)
        // and (3) go in one pass.
        private void changeArabs(int size) {
            int letter = kinds[0];
            for (int i = 1; i <= size; i++) {
                if (isLetter(kinds[i])) {
                    letter = kinds[i];
                }
                if (kinds[i] == ARAB) {
                    kinds[i] = RIGHT;
                } else if (kinds[i] == NUMBER && letter == ARAB) {
                    kinds[i] = ARABNUMBER;
                }
            }
        }

        private void joinNumbers(int size) {
            for (int i = 1; i <= size; i++) {
                int before = kinds[i - 1];
                if (before == kinds[i + 1]) {
                    boolean isJoined = kinds[i] == SIGNED && before == NUMBER
                            || kinds[i] == POINT && (before == NUMBER || before == ARABNUMBER);
                    kinds[i] = isJoined ? before : kinds[i];
                }
            }
        }

        private void changeUnits(int size) {
            for (int i = 1; i <= size; i++) {
                if (kinds[i] == UNIT) {
                    int end = i;
                    while (end <= size && kinds[end] == UNIT) {
                        end++;
                    }
                    boolean isByNumber = kinds[i - 1] == NUMBER || kinds[end] == NUMBER;
                    fillKinds(i, end, isByNumber ? NUMBER : OTHER);
                } else if (kinds[i] == SIGNED || kinds[i] == POINT) {
                    kinds[i] = OTHER;
                }
            }
        }

        private void changeLeftNumbers(int size) {
            int letter = kinds[0];
            for (int i = 1; i <= size; i++) {
                if (kinds[i] == LEFT || kinds[i] == RIGHT) {
                    letter = kinds[i];
                } else if (kinds[i] == NUMBER && letter == LEFT) {
                    kinds[i] = LEFT;
                }
            }
        }

        private void changeNeutrals(int size) {
            for (int i = 1; i <= size; i++) {
                if (isNeutral(kinds[i])) {
                    int end = i;
                    while (end <= size && isNeutral(kinds[end])) {
                        end++;
                    }
                    fillKinds(i, end, kindBetween(kinds[i - 1], kinds[end]));
                }
            }
        }

        private int kindBetween(int before, int behind) {
            if (before == LEFT && behind == LEFT) {
                return LEFT;
            }
            return readsRight(before) && readsRight(behind) ? RIGHT : kinds[0];
        }

        private void fillKinds(int start, int end, int kind) {
            for (int i = start; i < end; i++) {
                kinds[i] = kind;
            }
        }

        private static int levelFor(int kind, int base) {
            if (kind == RIGHT) {
                return 1;
            }
            return kind == LEFT && base == 0 ? 0 : HIGHEST;
        }

        private void resetGaps(Table table, Row text, int base) {
            boolean isInFront = true;
            for (int i = text.size() - 1; i >= 0; i--) {
                int kind = table.sideClass(text.item(i));
                isInFront = kind == TAB || kind == WHITE && isInFront;
                if (isInFront) {
                    levels[i] = base;
                }
            }
        }

        private void turnRows(int size, int level) {
            int start = 0;
            for (int i = 0; i < size; i++) {
                if (levels[i] < level) {
                    start = i + 1;
                } else if (i + 1 == size || levels[i + 1] < level) {
                    turnRound(start, i);
                }
            }
        }

        private void turnRound(int start, int last) {
            int i = start;
            int j = last;
            while (i < j) {
                int place = places[i];
                places[i] = places[j];
                places[j] = place;
                i++;
                j--;
            }
        }
    }

    /** The key of a text, made of its parted form. */
    private static final class Keys {
        static final int LIMIT = Forms.LIMIT * Table.WEIGHTS + Table.WEIGHTS - 1;

        static void fill(Table table, Row form, Row into) {
            into.cutTo(0);
            for (int which = 0; which < Table.WEIGHTS; which++) {
                if (which > 0) {
                    into.add(0);
                }
                for (int i = 0; i < form.size(); i++) {
                    int weight = table.weight(form.item(i), which);
                    if (weight != 0) {
                        into.add(weight);
                    }
                }
            }
        }
    }
}
