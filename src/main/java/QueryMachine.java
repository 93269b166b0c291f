import java.util.NoSuchElementException;

/**
 * A machine that runs queries over a document. Parts of a query are asked for one value at a time, so that no part
 * begins, and costs fuel, before its values are wanted.
 */
public final class QueryMachine {
    private static final int MOST_AT_ONCE = 8;
    private static final int MOST_CHARACTERS = 120;
    private static final int FIRST_CHARACTER = 32;
    private static final int LAST_CHARACTER = 126;
    private static final int MOST_FUEL = 250;
    private static final int THE_DOCUMENT = -1;
    private static final int HOW_MANY = -1;

    private final char[] nextText;
    private int nextTextLength;
    private final Reader reader;
    private final Writer writer;
    private final Runner runner;
    private Value theDocument;
    private Query theQuery;
    private Query nextQuery;

    public QueryMachine() {
        Values values = new Values();
        nextText = new char[MOST_CHARACTERS];
        reader = new Reader(values);
        writer = new Writer();
        runner = new Runner(values);
        theDocument = values.nothing;
        theQuery = new Query();
        theQuery.append(Query.SELF);
        theQuery.findsParts();
        nextQuery = new Query();
    }

    /** Appends n characters to the text of the next document. */
    public void text(long bytes, int n) throws IllegalArgumentException, IllegalStateException {
        if (!isAmount(n) || !areCharacters(bytes, n)) {
            throw new IllegalArgumentException();
        }
        if (nextTextLength + n > MOST_CHARACTERS) {
            throw new IllegalStateException();
        }
        for (int i = 0; i < n; i++) {
            nextText[nextTextLength + i] = (char) byteOf(bytes, n, i);
        }
        nextTextLength += n;
    }

    /** Makes the text the document. */
    public void document() throws IllegalArgumentException {
        Value read = reader.read(nextText, nextTextLength);
        nextTextLength = 0;
        if (read == null) {
            throw new IllegalArgumentException();
        }
        theDocument = read;
    }

    /** The place at which the latest text was bad, -1 when there is none. */
    public int bad() {
        return reader.bad;
    }

    /** Appends n bytes to the next query. */
    public void bytes(long bytes, int n) throws IllegalArgumentException, IllegalStateException {
        if (!isAmount(n)) {
            throw new IllegalArgumentException();
        }
        if (nextQuery.length + n > Query.MOST_BYTES) {
            throw new IllegalStateException();
        }
        for (int i = 0; i < n; i++) {
            nextQuery.append(byteOf(bytes, n, i));
        }
    }

    /** Makes the bytes the query. */
    public void query() throws IllegalArgumentException {
        boolean wellFormed = nextQuery.findsParts();
        if (wellFormed) {
            // The rows of the query that goes take the bytes of the one to come.
            Query gone = theQuery;
            theQuery = nextQuery;
            nextQuery = gone;
        }
        nextQuery.clear();
        if (!wellFormed) {
            throw new IllegalArgumentException();
        }
    }

    /** Runs the query on the document: how many values were put out. */
    public int run(int fuel) throws IllegalArgumentException {
        if (fuel < 0 || fuel > MOST_FUEL) {
            throw new IllegalArgumentException();
        }
        runner.start(theQuery, theDocument, fuel);
        return runner.size;
    }

    /** How the latest run ended, -1 when there was none. */
    public int ended() {
        return runner.ending;
    }

    /** How much fuel the latest run had left. */
    public int left() {
        return runner.fuel;
    }

    /** How many values the latest run put out. */
    public int count() {
        return runner.size;
    }

    /** The kind of a value of the latest run, or of the document. */
    public int kind(int k) throws NoSuchElementException {
        return valueOrDocument(k).kind;
    }

    /** A character of the text of a value, or how many there are. */
    public int written(int k, int i) throws NoSuchElementException, IndexOutOfBoundsException {
        writer.write(valueOrDocument(k), i);
        if (i == HOW_MANY) {
            return writer.length;
        }
        if (i < 0 || i >= writer.length) {
            throw new IndexOutOfBoundsException();
        }
        return writer.found;
    }

    /** A value of the latest run, or the document, as an integer. */
    public long integer(int k) throws NoSuchElementException, IllegalStateException {
        Value value = valueOrDocument(k);
        if (value.kind != Value.INTEGER) {
            throw new IllegalStateException();
        }
        return value.number;
    }

    /** Makes a value of the latest run the document. */
    public void adopt(int k) throws NoSuchElementException {
        theDocument = valueOfRun(k);
    }

    private Value valueOrDocument(int k) {
        return k == THE_DOCUMENT ? theDocument : valueOfRun(k);
    }

    private Value valueOfRun(int k) {
        Value value = runner.valueAt(k);
        if (value == null) {
            throw new NoSuchElementException();
        }
        return value;
    }

    private static boolean isAmount(int n) {
        return n >= 1 && n <= MOST_AT_ONCE;
    }

    private static boolean areCharacters(long bytes, int n) {
        for (int i = 0; i < n; i++) {
            int character = byteOf(bytes, n, i);
            if (character < FIRST_CHARACTER || character > LAST_CHARACTER) {
                return false;
            }
        }
        return true;
    }

    /** Byte i of the lowest n of bytes, the highest first. */
    private static int byteOf(long bytes, int n, int i) {
        return (int) (bytes >>> (8 * (n - 1 - i))) & 255;
    }

    /** A value. It never changes, so that a value may stand in many others, in the document and in what was put out. */
    private static final class Value {
        static final int NULL = 0;
        static final int FALSE = 1;
        static final int TRUE = 2;
        static final int INTEGER = 3;
        static final int STRING = 4;
        static final int LIST = 5;
        static final int OBJECT = 6;
        static final int MOST_LETTERS = 24;
        static final int MOST_ITEMS = 16;
        static final int MOST_HEIGHT = 7;
        static final int MOST_WEIGHT = 100;

        final int kind;
        final long number;
        final char[] letters;
        /** The keys of an object, each at the place that its value has among the items. */
        final Value[] keys;
        final Value[] items;
        /** How many values are in it, itself counted. */
        final int weight;
        /** In how many values the innermost value in it stands, up to this one. */
        final int height;

        Value(int kind, long number, char[] letters, Value[] keys, Value[] items) {
            this.kind = kind;
            this.number = number;
            this.letters = letters;
            this.keys = keys;
            this.items = items;
            int allWeights = 1;
            int mostHeight = 0;
            for (int i = 0; i < items.length; i++) {
                allWeights += items[i].weight;
                if (items[i].height >= mostHeight) {
                    mostHeight = items[i].height + 1;
                }
            }
            weight = allWeights;
            height = mostHeight;
        }

        boolean isTruthy() {
            return kind != NULL && kind != FALSE;
        }

        boolean hasItems() {
            return kind == LIST || kind == OBJECT;
        }

        boolean isWithinLimits() {
            return weight <= MOST_WEIGHT && height <= MOST_HEIGHT;
        }

        int size() {
            return kind == STRING ? letters.length : items.length;
        }

        /** The place of the member with this key, -1 when there is none. */
        int placeOf(Value key) {
            for (int i = 0; i < keys.length; i++) {
                if (order(keys[i].letters, key.letters) == 0) {
                    return i;
                }
            }
            return -1;
        }

        boolean isLessThan(Value other) {
            if (kind != other.kind) {
                return kind < other.kind;
            }
            if (kind == INTEGER) {
                return number < other.number;
            }
            return order(letters, other.letters) < 0;
        }

        boolean isSameAs(Value other) {
            return areSame(this, other, 0);
        }

        private static boolean areSame(Value x, Value y, int depth) {
            if (depth > MOST_HEIGHT || x.kind != y.kind || x.items.length != y.items.length) {
                return false;
            }
            if (x.number != y.number || order(x.letters, y.letters) != 0) {
                return false;
            }
            for (int i = 0; i < x.items.length; i++) {
                int place = x.kind == OBJECT ? y.placeOf(x.keys[i]) : i;
                if (place < 0 || !areSame(x.items[i], y.items[place], depth + 1)) {
                    return false;
                }
            }
            return true;
        }

        /** Below 0 when x comes before y, 0 when they are the same, above 0 otherwise. */
        static int order(char[] x, char[] y) {
            for (int i = 0; i < x.length && i < y.length; i++) {
                if (x[i] != y[i]) {
                    return x[i] - y[i];
                }
            }
            return x.length - y.length;
        }
    }

    /** Values or members that come one after the other, until a list or an object is made of them. */
    private static final class Gathering {
        final Value[] keys;
        final Value[] items;
        int size;

        Gathering() {
            keys = new Value[Value.MOST_ITEMS];
            items = new Value[Value.MOST_ITEMS];
        }

        void clear() {
            size = 0;
        }

        /** Whether there was room for it. */
        boolean add(Value item) {
            if (size >= Value.MOST_ITEMS) {
                return false;
            }
            items[size] = item;
            size++;
            return true;
        }

        /** Whether there was room for it: a key that comes again needs none. */
        boolean put(Value key, Value item) {
            for (int i = 0; i < size; i++) {
                if (Value.order(keys[i].letters, key.letters) == 0) {
                    items[i] = item;
                    return true;
                }
            }
            if (!add(item)) {
                return false;
            }
            keys[size - 1] = key;
            return true;
        }

        boolean putAll(Value object) {
            for (int i = 0; i < object.items.length; i++) {
                if (!put(object.keys[i], object.items[i])) {
                    return false;
                }
            }
            return true;
        }

        boolean addAll(Value list) {
            for (int i = 0; i < list.items.length; i++) {
                if (!add(list.items[i])) {
                    return false;
                }
            }
            return true;
        }
    }

    /** Makes values, and null instead of one that is beyond the limits. What comes often is made once. */
    private static final class Values {
        private static final char[] NO_LETTERS = {};

        final Value nothing;
        final Value no;
        final Value yes;
        private final Value[] noItems;
        private final Value[] alphabet;
        private final Gathering gathering;

        Values() {
            noItems = new Value[0];
            nothing = new Value(Value.NULL, 0, NO_LETTERS, noItems, noItems);
            no = new Value(Value.FALSE, 0, NO_LETTERS, noItems, noItems);
            yes = new Value(Value.TRUE, 0, NO_LETTERS, noItems, noItems);
            alphabet = new Value[Query.LAST_LETTER - Query.FIRST_LETTER + 1];
            for (int i = 0; i < alphabet.length; i++) {
                char[] letter = {(char) (Query.FIRST_LETTER + i)};
                alphabet[i] = new Value(Value.STRING, 0, letter, noItems, noItems);
            }
            gathering = new Gathering();
        }

        Value truth(boolean is) {
            return is ? yes : no;
        }

        Value number(long number) {
            return new Value(Value.INTEGER, number, NO_LETTERS, noItems, noItems);
        }

        Value letter(int k) {
            int place = k - Query.FIRST_LETTER;
            return place >= 0 && place < alphabet.length ? alphabet[place] : nothing;
        }

        Value string(char[] from, int size) {
            char[] letters = new char[size];
            for (int i = 0; i < size && i < from.length; i++) {
                letters[i] = from[i];
            }
            return new Value(Value.STRING, 0, letters, noItems, noItems);
        }

        Value list(Gathering from) {
            Value made = new Value(Value.LIST, 0, NO_LETTERS, noItems, firstOf(from.items, from.size));
            return made.isWithinLimits() ? made : null;
        }

        Value object(Gathering from) {
            Value[] keys = firstOf(from.keys, from.size);
            Value made = new Value(Value.OBJECT, 0, NO_LETTERS, keys, firstOf(from.items, from.size));
            return made.isWithinLimits() ? made : null;
        }

        /** The object with this member, at its place when it has that key, behind the others otherwise. */
        Value withMember(Value object, Value key, Value item) {
            gathering.clear();
            return gathering.putAll(object) && gathering.put(key, item) ? object(gathering) : null;
        }

        Value keysOf(Value object) {
            return new Value(Value.LIST, 0, NO_LETTERS, noItems, object.keys);
        }

        /** The two values added; null when they can't be. */
        Value sum(Value x, Value y) {
            if (x.kind == Value.NULL) {
                return y;
            }
            if (y.kind == Value.NULL) {
                return x;
            }
            if (x.kind != y.kind) {
                return null;
            }
            switch (x.kind) {
                case Value.INTEGER:
                    return number(x.number + y.number);
                case Value.STRING:
                    return joinedStrings(x.letters, y.letters);
                case Value.LIST:
                    gathering.clear();
                    return gathering.addAll(x) && gathering.addAll(y) ? list(gathering) : null;
                case Value.OBJECT:
                    gathering.clear();
                    return gathering.putAll(x) && gathering.putAll(y) ? object(gathering) : null;
                default:
                    return null;
            }
        }

        /** The difference of two integers; null when they are not. */
        Value difference(Value x, Value y) {
            return areIntegers(x, y) ? number(x.number - y.number) : null;
        }

        /** The product of two integers; null when they are not. */
        Value product(Value x, Value y) {
            return areIntegers(x, y) ? number(x.number * y.number) : null;
        }

        private static boolean areIntegers(Value x, Value y) {
            return x.kind == Value.INTEGER && y.kind == Value.INTEGER;
        }

        private Value joinedStrings(char[] x, char[] y) {
            if (x.length + y.length > Value.MOST_LETTERS) {
                return null;
            }
            char[] letters = new char[x.length + y.length];
            System.arraycopy(x, 0, letters, 0, x.length);
            System.arraycopy(y, 0, letters, x.length, y.length);
            return new Value(Value.STRING, 0, letters, noItems, noItems);
        }

        private Value[] firstOf(Value[] from, int size) {
            if (size == 0) {
                return noItems;
            }
            Value[] first = new Value[size];
            for (int i = 0; i < size && i < from.length; i++) {
                first[i] = from[i];
            }
            return first;
        }
    }

    /** Reads a document from its text. Each method that reads stands behind what it has read, or at the bad place. */
    private static final class Reader {
        private static final int NOWHERE = -1;
        /** No character of a text, so that the end is refused wherever a sign is looked for. */
        private static final char END = 0;

        private final Values values;
        /** One for each depth, as the lists and objects around are still being gathered. */
        private final Gathering[] gatherings;
        private final char[] letters;
        private char[] text;
        private int length;
        private int at;
        int bad;

        Reader(Values values) {
            this.values = values;
            gatherings = new Gathering[Value.MOST_HEIGHT + 1];
            for (int i = 0; i < gatherings.length; i++) {
                gatherings[i] = new Gathering();
            }
            letters = new char[Value.MOST_LETTERS];
            bad = NOWHERE;
        }

        /** The value, or null when the text is bad. */
        Value read(char[] from, int size) {
            text = from;
            length = Math.min(size, from.length);
            at = 0;
            bad = NOWHERE;
            Value value = readValue(0);
            if (value == null) {
                return null;
            }
            skipBlanks();
            return at < length ? refused() : value;
        }

        private Value readValue(int depth) {
            skipBlanks();
            if (depth > Value.MOST_HEIGHT) {
                return refused();
            }
            switch (sign()) {
                case 'n':
                    return readWord("null", values.nothing);
                case 'f':
                    return readWord("false", values.no);
                case 't':
                    return readWord("true", values.yes);
                case '"':
                    return readString();
                case '[':
                    return readItems(depth, false);
                case '{':
                    return readItems(depth, true);
                default:
                    return readInteger();
            }
        }

        private Value readItems(int depth, boolean ofObject) {
            char close = ofObject ? '}' : ']';
            Gathering gathering = gatherings[depth];
            gathering.clear();
            at++;
            if (passes(close)) {
                return made(gathering, ofObject);
            }
            for (int i = 1; i <= Value.MOST_ITEMS; i++) {
                if (!(ofObject ? readMember(gathering, depth + 1) : readItem(gathering, depth + 1))) {
                    return null;
                }
                if (passes(close)) {
                    return made(gathering, ofObject);
                }
                // Members are counted here, not in the gathering, where a key that comes again takes no room.
                if (i == Value.MOST_ITEMS || !passes(',')) {
                    return refused();
                }
            }
            return refused();
        }

        private Value made(Gathering gathering, boolean ofObject) {
            return ofObject ? values.object(gathering) : values.list(gathering);
        }

        private boolean readItem(Gathering gathering, int depth) {
            Value item = readValue(depth);
            return item != null && gathering.add(item);
        }

        private boolean readMember(Gathering gathering, int depth) {
            skipBlanks();
            Value key = sign() == '"' ? readString() : refused();
            if (key == null) {
                return false;
            }
            Value item = passes(':') ? readValue(depth) : refused();
            return item != null && gathering.put(key, item);
        }

        private Value readString() {
            int size = 0;
            at++;
            while (at < length) {
                char letter = text[at];
                if (letter == '"') {
                    at++;
                    return values.string(letters, size);
                }
                if (letter == '\\') {
                    at++;
                    letter = sign();
                    if (letter != '"' && letter != '\\') {
                        return refused();
                    }
                }
                if (size >= Value.MOST_LETTERS) {
                    return refused();
                }
                letters[size] = letter;
                size++;
                at++;
            }
            return refused();
        }

        private Value readInteger() {
            boolean negative = sign() == '-';
            if (negative) {
                at++;
            }
            if (sign() == '0') {
                at++;
                return values.number(0);
            }
            if (!isDigit(sign())) {
                return refused();
            }
            // The number is kept below 0, as the least integer has no counterpart above.
            long least = negative ? Long.MIN_VALUE : -Long.MAX_VALUE;
            long number = 0;
            while (at < length && isDigit(text[at])) {
                int digit = text[at] - '0';
                if (number < (least + digit) / 10) {
                    return refused();
                }
                number = number * 10 - digit;
                at++;
            }
            return values.number(negative ? number : -number);
        }

        private Value readWord(String word, Value value) {
            for (int i = 0; i < word.length(); i++) {
                if (sign() != word.charAt(i)) {
                    return refused();
                }
                at++;
            }
            return value;
        }

        /** Goes behind the next sign when it is this one. */
        private boolean passes(char wanted) {
            skipBlanks();
            if (sign() != wanted) {
                return false;
            }
            at++;
            return true;
        }

        private void skipBlanks() {
            while (at < length && text[at] == ' ') {
                at++;
            }
        }

        private char sign() {
            return at < length ? text[at] : END;
        }

        private Value refused() {
            bad = at;
            return null;
        }

        private static boolean isDigit(char c) {
            return c >= '0' && c <= '9';
        }
    }

    /** Finds one character of a value's text and the text's length, without keeping the text, which may be long. */
    private static final class Writer {
        private static final int MOST_DIGITS = 19;

        private final char[] digits;
        private int wanted;
        char found;
        int length;

        Writer() {
            digits = new char[MOST_DIGITS];
        }

        void write(Value value, int place) {
            wanted = place;
            found = 0;
            length = 0;
            writeValue(value, 0);
        }

        private void writeValue(Value value, int depth) {
            if (depth > Value.MOST_HEIGHT) {
                return;
            }
            switch (value.kind) {
                case Value.NULL:
                    writeWord("null");
                    break;
                case Value.FALSE:
                    writeWord("false");
                    break;
                case Value.TRUE:
                    writeWord("true");
                    break;
                case Value.INTEGER:
                    writeInteger(value.number);
                    break;
                case Value.STRING:
                    writeString(value);
                    break;
                default:
                    writeItems(value, depth);
                    break;
            }
        }

        private void writeItems(Value value, int depth) {
            boolean isObject = value.kind == Value.OBJECT;
            writeSign(isObject ? '{' : '[');
            for (int i = 0; i < value.items.length; i++) {
                if (i > 0) {
                    writeSign(',');
                }
                if (isObject) {
                    writeString(value.keys[i]);
                    writeSign(':');
                }
                writeValue(value.items[i], depth + 1);
            }
            writeSign(isObject ? '}' : ']');
        }

        private void writeString(Value string) {
            writeSign('"');
            for (int i = 0; i < string.letters.length; i++) {
                char letter = string.letters[i];
                if (letter == '"' || letter == '\\') {
                    writeSign('\\');
                }
                writeSign(letter);
            }
            writeSign('"');
        }

        private void writeInteger(long number) {
            if (number < 0) {
                writeSign('-');
            }
            int size = 0;
            long rest = number;
            do {
                // The remainder bears the number's sign, so that the least integer needs no counterpart above 0.
                digits[size] = (char) ('0' + Math.abs((int) (rest % 10)));
                size++;
                rest /= 10;
            } while (rest != 0 && size < MOST_DIGITS);
            for (int i = size - 1; i >= 0; i--) {
                writeSign(digits[i]);
            }
        }

        private void writeWord(String word) {
            for (int i = 0; i < word.length(); i++) {
                writeSign(word.charAt(i));
            }
        }

        private void writeSign(char sign) {
            if (length == wanted) {
                found = sign;
            }
            length++;
        }
    }

    /** A query: its bytes, and for each byte with which a part begins where the parts in it begin. */
    private static final class Query {
        static final int SELF = 0;
        static final int FIELD = 1;
        static final int ITEM = 2;
        static final int EACH = 3;
        static final int DEEP = 4;
        static final int NUMBER = 5;
        static final int LETTER = 6;
        static final int NULL = 7;
        static final int PIPE = 8;
        static final int BOTH = 9;
        static final int ELSE = 10;
        static final int IF = 11;
        static final int LIST = 12;
        static final int TRY = 13;
        static final int FOLD = 14;
        static final int ELEMENT = 15;
        static final int PUT = 16;
        static final int NONE = 17;
        static final int FAIL = 18;
        static final int NOT = 19;
        static final int LENGTH = 20;
        static final int KEYS = 21;
        static final int ADD = 22;
        static final int SUBTRACT = 23;
        static final int MULTIPLY = 24;
        static final int EQUAL = 25;
        static final int LESS = 26;

        /** The parts in a part. */
        static final int P = 0;
        static final int Q = 1;
        static final int R = 2;
        private static final int MOST_PARTS_IN = 3;

        static final int MOST_BYTES = 60;
        static final int MOST_DEPTH = 12;
        static final int FIRST_LETTER = 97;
        static final int LAST_LETTER = 122;
        private static final int BYTE_OF_ZERO = 128;
        private static final int MALFORMED = -1;
        /** How many parts stand in a part that begins with each byte. */
        private static final int[] PARTS_IN = {
            0, 0, 0, 0, 0, 0, 0, 0, 2, 2, 2, 3, 1, 1, 3, 0, 1, 0, 0, 0, 0, 0, 2, 2, 2, 2, 2
        };

        private final int[] code;
        /** Where p, q and r of the part at each place begin. */
        private final int[] begins;
        int length;

        Query() {
            code = new int[MOST_BYTES];
            begins = new int[MOST_BYTES * MOST_PARTS_IN];
        }

        void clear() {
            length = 0;
        }

        void append(int oneByte) {
            if (length < MOST_BYTES) {
                code[length] = oneByte;
                length++;
            }
        }

        /** Finds where each part begins, which a run needs: whether the bytes are just one part. */
        boolean findsParts() {
            return findBehind(0, 0) == length;
        }

        private int findBehind(int at, int depth) {
            if (at >= length || depth > MOST_DEPTH || code[at] >= PARTS_IN.length || !hasItsByte(at)) {
                return MALFORMED;
            }
            int part = code[at];
            int place = at + (takesLetter(part) || takesNumber(part) ? 2 : 1);
            for (int i = 0; i < PARTS_IN[part]; i++) {
                begins[at * MOST_PARTS_IN + i] = place;
                place = findBehind(place, depth + 1);
                if (place == MALFORMED) {
                    return MALFORMED;
                }
            }
            return place;
        }

        private boolean hasItsByte(int at) {
            if (takesLetter(code[at])) {
                return at + 1 < length && code[at + 1] >= FIRST_LETTER && code[at + 1] <= LAST_LETTER;
            }
            return !takesNumber(code[at]) || at + 1 < length;
        }

        private static boolean takesLetter(int part) {
            return part == FIELD || part == LETTER || part == PUT;
        }

        private static boolean takesNumber(int part) {
            return part == ITEM || part == NUMBER;
        }

        int partAt(int at) {
            return byteAt(at);
        }

        int letterOf(int at) {
            return byteAt(at + 1);
        }

        int numberOf(int at) {
            return byteAt(at + 1) - BYTE_OF_ZERO;
        }

        /** Where P, Q or R of the part at that place begins. */
        int placeIn(int at, int which) {
            int place = at * MOST_PARTS_IN + which;
            return place >= 0 && place < begins.length ? begins[place] : length;
        }

        private int byteAt(int at) {
            return at >= 0 && at < length ? code[at] : FAIL;
        }
    }

    /** A part that has begun, and how far it has come. */
    private static final class Step {
        int at;
        /** In how many others that have begun it stands. */
        int depth;
        Value it;
        Value element;
        /** What the parts p and q in it have come to; null when they have not begun. */
        Step first;
        Step second;
        int given;
        /** How many items DEEP has begun with. */
        int place;
        /** The value that it gave last, the null of values before the first. */
        Value value;
    }

    /** Runs a query, and keeps what was put out. */
    private static final class Runner {
        private static final int MOST_PUT_OUT = 16;
        /** A part within every other, and there a DEEP for each value around a value. */
        private static final int MOST_DEPTH = Query.MOST_DEPTH + Value.MOST_HEIGHT;
        /** Far above the values of one part: with all fuel spent on EACH there are 16 times 250. */
        private static final int MOST_TURNS = 100000;

        private static final int NOT_RUN = -1;
        /** What a part answers when it is asked for a value; all but the last are endings of a run, too. */
        private static final int ENDS = 0;
        private static final int FAILS = 1;
        private static final int STARVES = 2;
        private static final int GIVES = 3;
        private static final int FULL = 3;

        private final Values values;
        /** All that can begin in one run, as each costs 1. */
        private final Step[] steps;
        /** One for each depth at which a LIST can stand, as the lists around are still being gathered. */
        private final Gathering[] gatherings;
        private final Value[] putOut;
        private Query query;
        private int begun;
        int fuel;
        int size;
        int ending;

        Runner(Values values) {
            this.values = values;
            steps = new Step[MOST_FUEL];
            for (int i = 0; i < steps.length; i++) {
                steps[i] = new Step();
            }
            gatherings = new Gathering[Query.MOST_DEPTH];
            for (int i = 0; i < gatherings.length; i++) {
                gatherings[i] = new Gathering();
            }
            putOut = new Value[MOST_PUT_OUT];
            ending = NOT_RUN;
        }

        Value valueAt(int k) {
            return k >= 0 && k < size ? putOut[k] : null;
        }

        void start(Query theQuery, Value document, int allFuel) {
            query = theQuery;
            fuel = allFuel;
            begun = 0;
            size = 0;
            ending = FULL;
            Step whole = begin(0, 0, document, values.nothing);
            while (size < MOST_PUT_OUT) {
                int answer = ask(whole);
                if (answer != GIVES) {
                    ending = answer;
                    return;
                }
                putOut[size] = whole.value;
                size++;
            }
        }

        /** The part as it begins, or null when there is no fuel for it. */
        private Step begin(int at, int depth, Value it, Value element) {
            if (depth > MOST_DEPTH || begun >= steps.length || !pays()) {
                return null;
            }
            Step step = steps[begun];
            begun++;
            step.at = at;
            step.depth = depth;
            step.it = it;
            step.element = element;
            step.first = null;
            step.second = null;
            step.given = 0;
            step.place = 0;
            step.value = values.nothing;
            return step;
        }

        private boolean pays() {
            if (fuel <= 0) {
                return false;
            }
            fuel--;
            return true;
        }

        private int ask(Step step) {
            if (step == null) {
                return STARVES;
            }
            switch (query.partAt(step.at)) {
                case Query.EACH:
                    return askEach(step);
                case Query.DEEP:
                    return askDeep(step);
                case Query.BOTH:
                    return askBoth(step);
                case Query.ELSE:
                    return askElse(step);
                case Query.LIST:
                    return askList(step);
                case Query.TRY:
                    return askTry(step);
                case Query.FOLD:
                    return askFold(step);
                case Query.PUT:
                    return askPut(step);
                case Query.NONE:
                    return ENDS;
                case Query.PIPE:
                case Query.IF:
                    return askPipeOrIf(step);
                case Query.ADD:
                case Query.SUBTRACT:
                case Query.MULTIPLY:
                case Query.EQUAL:
                case Query.LESS:
                    return askTwo(step);
                default:
                    return askOnlyValue(step);
            }
        }

        private int askFirst(Step step) {
            if (step.first == null) {
                step.first = begin(query.placeIn(step.at, Query.P), step.depth + 1, step.it, step.element);
            }
            return ask(step.first);
        }

        private int askSecond(Step step) {
            if (step.second == null) {
                step.second = begin(query.placeIn(step.at, Query.Q), step.depth + 1, step.it, step.element);
            }
            return ask(step.second);
        }

        private static int gives(Step step, Value value) {
            step.value = value;
            step.given++;
            return GIVES;
        }

        private static int givesOrFails(Step step, Value value) {
            return value == null ? FAILS : gives(step, value);
        }

        private static int passesOn(Step step, Step within, int answer) {
            return answer == GIVES ? gives(step, within.value) : answer;
        }

        private int askEach(Step step) {
            if (!step.it.hasItems()) {
                return FAILS;
            }
            return step.given < step.it.items.length ? gives(step, step.it.items[step.given]) : ENDS;
        }

        private int askDeep(Step step) {
            if (step.given == 0) {
                return gives(step, step.it);
            }
            for (int turn = 0; turn <= Value.MOST_ITEMS; turn++) {
                int answer = step.first == null ? ENDS : ask(step.first);
                if (answer != ENDS) {
                    return passesOn(step, step.first, answer);
                }
                if (step.place >= step.it.items.length) {
                    return ENDS;
                }
                step.first = begin(step.at, step.depth + 1, step.it.items[step.place], step.element);
                step.place++;
                if (step.first == null) {
                    return STARVES;
                }
            }
            return ENDS;
        }

        private int askBoth(Step step) {
            if (step.second == null) {
                int answer = askFirst(step);
                if (answer != ENDS) {
                    return passesOn(step, step.first, answer);
                }
            }
            int answer = askSecond(step);
            return passesOn(step, step.second, answer);
        }

        private int askElse(Step step) {
            if (step.second == null) {
                int answer = askFirstTruthy(step);
                if (answer == GIVES || answer == STARVES) {
                    return passesOn(step, step.first, answer);
                }
                if (step.given > 0) {
                    return ENDS;
                }
            }
            int answer = askSecond(step);
            return passesOn(step, step.second, answer);
        }

        private int askFirstTruthy(Step step) {
            for (int turn = 0; turn < MOST_TURNS; turn++) {
                int answer = askFirst(step);
                if (answer != GIVES || step.first.value.isTruthy()) {
                    return answer;
                }
            }
            return STARVES;
        }

        private int askList(Step step) {
            if (step.given > 0) {
                return ENDS;
            }
            if (step.depth >= gatherings.length) {
                return FAILS;
            }
            Gathering gathering = gatherings[step.depth];
            gathering.clear();
            for (int turn = 0; turn <= Value.MOST_ITEMS; turn++) {
                int answer = askFirst(step);
                if (answer == ENDS) {
                    return givesOrFails(step, values.list(gathering));
                }
                if (answer != GIVES) {
                    return answer;
                }
                if (!gathering.add(step.first.value)) {
                    return FAILS;
                }
            }
            return FAILS;
        }

        private int askTry(Step step) {
            int answer = askFirst(step);
            return answer == FAILS ? ENDS : passesOn(step, step.first, answer);
        }

        private int askFold(Step step) {
            int answer = askSecond(step);
            if (answer != GIVES) {
                return answer;
            }
            Value result = step.second.value;
            step.first = null;
            for (int turn = 0; turn < MOST_TURNS; turn++) {
                answer = askFirst(step);
                if (answer == ENDS) {
                    return gives(step, result);
                }
                if (answer != GIVES) {
                    return answer;
                }
                Step third = begin(query.placeIn(step.at, Query.R), step.depth + 1, result, step.first.value);
                answer = askForAll(third);
                if (third == null || answer != ENDS) {
                    return answer;
                }
                result = third.value;
            }
            return STARVES;
        }

        /** Asks until there is no more: the last value stays in the step. */
        private int askForAll(Step step) {
            for (int turn = 0; turn < MOST_TURNS; turn++) {
                int answer = ask(step);
                if (answer != GIVES) {
                    return answer;
                }
            }
            return STARVES;
        }

        private int askPut(Step step) {
            if (step.it.kind != Value.OBJECT && step.it.kind != Value.NULL) {
                return FAILS;
            }
            int answer = askFirst(step);
            if (answer != GIVES) {
                return answer;
            }
            if (!pays()) {
                return STARVES;
            }
            Value key = values.letter(query.letterOf(step.at));
            return givesOrFails(step, values.withMember(step.it, key, step.first.value));
        }

        private int askPipeOrIf(Step step) {
            int answer = askForEachFirst(step);
            return passesOn(step, step.second, answer);
        }

        private int askTwo(Step step) {
            int answer = askForEachFirst(step);
            if (answer != GIVES) {
                return answer;
            }
            if (!pays()) {
                return STARVES;
            }
            Value x = step.first.value;
            Value y = step.second.value;
            switch (query.partAt(step.at)) {
                case Query.ADD:
                    return givesOrFails(step, values.sum(x, y));
                case Query.SUBTRACT:
                    return givesOrFails(step, values.difference(x, y));
                case Query.MULTIPLY:
                    return givesOrFails(step, values.product(x, y));
                case Query.EQUAL:
                    return gives(step, values.truth(x.isSameAs(y)));
                case Query.LESS:
                    return gives(step, values.truth(x.isLessThan(y)));
                default:
                    return FAILS;
            }
        }

        /** For the parts in which q, or r, begins anew for each value of p: the next value of that. */
        private int askForEachFirst(Step step) {
            for (int turn = 0; turn < MOST_TURNS; turn++) {
                int answer = step.second == null ? ENDS : ask(step.second);
                if (answer != ENDS) {
                    return answer;
                }
                answer = askFirst(step);
                if (answer != GIVES) {
                    return answer;
                }
                step.second = beginSecond(step, step.first.value);
                if (step.second == null) {
                    return STARVES;
                }
            }
            return STARVES;
        }

        private Step beginSecond(Step step, Value x) {
            int part = query.partAt(step.at);
            int which = part == Query.IF && !x.isTruthy() ? Query.R : Query.Q;
            Value it = part == Query.PIPE ? x : step.it;
            return begin(query.placeIn(step.at, which), step.depth + 1, it, step.element);
        }

        private int askOnlyValue(Step step) {
            return step.given > 0 ? ENDS : givesOrFails(step, onlyValue(step, step.it));
        }

        /** The value of a part that leads to one at most; null when it fails. */
        private Value onlyValue(Step step, Value it) {
            switch (query.partAt(step.at)) {
                case Query.SELF:
                    return it;
                case Query.FIELD:
                    return field(it, values.letter(query.letterOf(step.at)));
                case Query.ITEM:
                    return item(it, query.numberOf(step.at));
                case Query.NUMBER:
                    return values.number(query.numberOf(step.at));
                case Query.LETTER:
                    return values.letter(query.letterOf(step.at));
                case Query.NULL:
                    return values.nothing;
                case Query.ELEMENT:
                    return step.element;
                case Query.NOT:
                    return values.truth(!it.isTruthy());
                case Query.LENGTH:
                    return length(it);
                case Query.KEYS:
                    return it.kind == Value.OBJECT ? values.keysOf(it) : null;
                default:
                    return null;
            }
        }

        private Value field(Value it, Value key) {
            if (it.kind != Value.OBJECT) {
                return it.kind == Value.NULL ? it : null;
            }
            int place = it.placeOf(key);
            return place >= 0 ? it.items[place] : values.nothing;
        }

        private Value item(Value it, int n) {
            if (it.kind != Value.LIST) {
                return it.kind == Value.NULL ? it : null;
            }
            int place = n < 0 ? it.items.length + n : n;
            return place >= 0 && place < it.items.length ? it.items[place] : values.nothing;
        }

        private Value length(Value it) {
            switch (it.kind) {
                case Value.FALSE:
                case Value.TRUE:
                    return null;
                case Value.INTEGER:
                    return values.number(it.number < 0 ? -it.number : it.number);
                default:
                    return values.number(it.size());
            }
        }
    }
}
