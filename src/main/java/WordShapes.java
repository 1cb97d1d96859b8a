/**
 * Shapes in the plane as words, as they are usually written: read from any text, exactly, with the
 * first thing that is wrong and its place, and written so that the same is read again.
 */
public final class WordShapes {
    /** Nothing there. */
    public static final int NONE = -1;

    private static final int SLOTS = 4;
    private static final int FED_BYTES = 20;
    private static final int TAPE_LIMIT = 65536;
    private static final int RESULT_LIMIT = 131072;
    private static final int SHAPE_LIMIT = 4096;
    private static final int ORDINATE_LIMIT = 1000000000;

    private static final int POINT = 1;
    private static final int LINESTRING = 2;
    private static final int POLYGON = 3;
    private static final int MULTIPOINT = 4;
    private static final int MULTILINESTRING = 5;
    private static final int MULTIPOLYGON = 6;
    private static final int COLLECTION = 7;
    private static final int RING = 8;
    /** What is around everything: the text itself, which has one shape and no bracket. */
    private static final int TEXT = 0;
    /** From a kind of many parts to the kind of its parts. */
    private static final int PART_STEP = 3;

    private static final int COLLECTIONS_LIMIT = 50;
    /** The text, the collections, and the three brackets of a MULTIPOLYGON in the innermost. */
    private static final int OPEN_LIMIT = COLLECTIONS_LIMIT + 4;

    private static final String EMPTY_WORD = "EMPTY";

    private final Shape[] slots = new Shape[SLOTS];
    private final byte[] tape;
    private final Reader reader;
    private final Writer writer;
    private int tapeLength;

    public WordShapes(int digits, int points, int plan) {
        int keptDigits = digits & 3;
        int pointLimit = Math.max(1, Math.min(points, SHAPE_LIMIT));
        int planLimit = Math.max(2, Math.min(plan, SHAPE_LIMIT));
        for (int i = 0; i < SLOTS; i++) {
            slots[i] = new Shape(planLimit, pointLimit);
        }
        byte[] bytes = new byte[TAPE_LIMIT];
        tape = bytes;
        reader = new Reader(bytes, keptDigits, new Shape(planLimit, pointLimit));
        writer = new Writer(keptDigits);
    }

    public int feed(int a, int b, int c, int d, int e) throws IllegalStateException {
        if (tapeLength > TAPE_LIMIT - FED_BYTES) {
            throw new IllegalStateException("the tape is full");
        }
        feedFour(a);
        feedFour(b);
        feedFour(c);
        feedFour(d);
        feedFour(e);
        return tapeLength;
    }

    public int end(int n) throws IllegalArgumentException, IllegalStateException {
        if (n < 0 || n > FED_BYTES) {
            throw new IllegalArgumentException("n is not 0 .. 20");
        }
        if (tapeLength < FED_BYTES) {
            throw new IllegalStateException("the tape has less than twenty bytes");
        }
        tapeLength = tapeLength - FED_BYTES + n;
        return tapeLength;
    }

    public int read(int slot) throws IndexOutOfBoundsException, IllegalArgumentException {
        int length = tapeLength;
        // The tape is gone and the slot has none even when what follows throws.
        tapeLength = 0;
        Shape shape = shapeIn(slot);
        shape.clear();
        reader.readText(length);
        shape.takeFrom(reader.draft);
        return shape.numberAt(0);
    }

    public int fault(int what) throws IndexOutOfBoundsException {
        if (what == 0) {
            return reader.faultKind;
        }
        if (what == 1) {
            return reader.faultPlace;
        }
        throw new IndexOutOfBoundsException("a fault has 0 and 1");
    }

    public int write(int slot) throws IndexOutOfBoundsException, IllegalStateException, UnsupportedOperationException {
        Shape shape = shapeIn(slot);
        if (shape.isNone()) {
            throw new IllegalStateException("the slot has no shape");
        }
        // Measured first, because a result that would be too long leaves the one before it.
        if (writer.lay(shape, false) > RESULT_LIMIT) {
            throw new UnsupportedOperationException("the result would be too long");
        }
        writer.length = writer.lay(shape, true);
        return writer.length;
    }

    public int again() {
        tapeLength = Math.min(writer.length, TAPE_LIMIT);
        System.arraycopy(writer.bytes, 0, tape, 0, tapeLength);
        return tapeLength;
    }

    public boolean same(int slot, int other) throws IndexOutOfBoundsException {
        Shape one = shapeIn(slot);
        Shape two = shapeIn(other);
        return one.isLike(two);
    }

    public int plan(int slot, int i) throws IndexOutOfBoundsException {
        Shape shape = shapeIn(slot);
        if (i < 0 || i >= shape.numbers) {
            throw new IndexOutOfBoundsException("no such number of the plan");
        }
        return shape.numberAt(i);
    }

    public int ordinate(int slot, int i, int what) throws IndexOutOfBoundsException {
        Shape shape = shapeIn(slot);
        if (i < 0 || i >= shape.points) {
            throw new IndexOutOfBoundsException("no such point");
        }
        if (what < 0 || what > 1) {
            throw new IndexOutOfBoundsException("a point has 0 and 1");
        }
        return shape.ordinateAt(i, what);
    }

    public int byteAt(int i) throws IndexOutOfBoundsException {
        if (i < 0 || i >= writer.length) {
            throw new IndexOutOfBoundsException("no such byte of the result");
        }
        return writer.bytes[i] & 255;
    }

    public int count(int slot, int what) throws IndexOutOfBoundsException {
        Shape shape = shapeIn(slot);
        switch (what) {
            case 0:
                return shape.numbers;
            case 1:
                return shape.points;
            case 2:
                return tapeLength;
            case 3:
                return writer.length;
            default:
                throw new IndexOutOfBoundsException("what is counted is 0 .. 3");
        }
    }

    private Shape shapeIn(int slot) {
        if (slot < 0 || slot >= SLOTS) {
            throw new IndexOutOfBoundsException("no such slot");
        }
        return slots[slot];
    }

    private void feedFour(int word) {
        for (int shift = 24; shift >= 0 && tapeLength < TAPE_LIMIT; shift -= 8) {
            tape[tapeLength] = (byte) (word >>> shift);
            tapeLength++;
        }
    }

    private static String wordOf(int kind) {
        switch (kind) {
            case POINT:
                return "POINT";
            case LINESTRING:
                return "LINESTRING";
            case POLYGON:
                return "POLYGON";
            case MULTIPOINT:
                return "MULTIPOINT";
            case MULTILINESTRING:
                return "MULTILINESTRING";
            case MULTIPOLYGON:
                return "MULTIPOLYGON";
            default:
                return "GEOMETRYCOLLECTION";
        }
    }

    /** A plan and its points; none when the plan has no number. */
    private static final class Shape {
        private final int[] plan;
        private final int[] ordinates;
        private int numbers;
        private int points;

        Shape(int planLimit, int pointLimit) {
            plan = new int[planLimit];
            ordinates = new int[2 * pointLimit];
        }

        void clear() {
            numbers = 0;
            points = 0;
        }

        boolean isNone() {
            return numbers == 0;
        }

        boolean hasRoomFor(int more) {
            return numbers <= plan.length - more;
        }

        boolean hasRoomForPoint() {
            return 2 * points + 1 < ordinates.length;
        }

        void addNumber(int number) {
            if (numbers < plan.length) {
                plan[numbers] = number;
                numbers++;
            }
        }

        void addPoint(int x, int y) {
            if (hasRoomForPoint()) {
                ordinates[2 * points] = x;
                ordinates[2 * points + 1] = y;
                points++;
            }
        }

        void addOneAt(int i) {
            if (i >= 0 && i < numbers) {
                plan[i]++;
            }
        }

        int numberAt(int i) {
            return i >= 0 && i < numbers ? plan[i] : 0;
        }

        int ordinateAt(int point, int what) {
            return point >= 0 && point < points ? ordinates[2 * point + (what & 1)] : 0;
        }

        void takeFrom(Shape other) {
            clear();
            for (int i = 0; i < other.numbers; i++) {
                addNumber(other.plan[i]);
            }
            for (int i = 0; i < other.points; i++) {
                addPoint(other.ordinates[2 * i], other.ordinates[2 * i + 1]);
            }
        }

        boolean isLike(Shape other) {
            if (numbers != other.numbers || points != other.points) {
                return false;
            }
            for (int i = 0; i < numbers; i++) {
                if (plan[i] != other.plan[i]) {
                    return false;
                }
            }
            for (int i = 0; i < 2 * points; i++) {
                if (ordinates[i] != other.ordinates[i]) {
                    return false;
                }
            }
            return true;
        }
    }

    /** What is open, the text first: of each, what it is and a number that its user keeps with it. */
    private static final class Brackets {
        private final int[] kinds = new int[OPEN_LIMIT];
        private final int[] numbers = new int[OPEN_LIMIT];
        private int top;

        void start(int number) {
            top = 0;
            kinds[0] = TEXT;
            numbers[0] = number;
        }

        void open(int kind, int number) {
            if (top < OPEN_LIMIT - 1) {
                top++;
                kinds[top] = kind;
                numbers[top] = number;
            }
        }

        void close() {
            if (top > 0) {
                top--;
            }
        }

        int kind() {
            return kinds[top];
        }

        int number() {
            return numbers[top];
        }

        void lessOne() {
            numbers[top]--;
        }
    }

    /** Reads a text into its draft, or keeps what is wrong and throws IllegalArgumentException. */
    private static final class Reader {
        private static final int CHARACTER = 1;
        private static final int WORD = 2;
        private static final int EXPECTED = 3;
        private static final int NUMBER = 4;
        private static final int RANGE = 5;
        private static final int DEEP = 6;
        private static final int FULL = 7;
        private static final int BEHIND = 8;

        private static final int END = -1;
        /** Far beyond any text's length, so a larger exponent changes nothing. */
        private static final int EXPONENT_LIMIT = 1000000;

        private final byte[] text;
        private final int digits;
        private final Shape draft;
        /** The number kept with what is open is the place in the plan where its parts are counted. */
        private final Brackets open = new Brackets();
        private int length;
        private int place;
        private int faultKind;
        private int faultPlace;

        Reader(byte[] text, int digits, Shape draft) {
            this.text = text;
            this.digits = digits;
            this.draft = draft;
        }

        void readText(int textLength) {
            length = Math.min(textLength, text.length);
            place = 0;
            faultKind = 0;
            faultPlace = 0;
            draft.clear();
            open.start(NONE);
            boolean more = true;
            // Each item takes a byte or fails, so there are no more turns than bytes.
            for (int turn = 0; more && turn <= length; turn++) {
                more = opensItem() || goesOn();
            }
            skipBlanks();
            if (place < length) {
                fail(BEHIND, place);
            }
        }

        /** Reads the next item of what is open, up to the bracket that it opens, if it opens one. */
        private boolean opensItem() {
            skipBlanks();
            draft.addOneAt(open.number());
            int around = open.kind();
            switch (around) {
                case TEXT:
                case COLLECTION:
                    int kind = readKind();
                    skipBlanks();
                    keepKind(kind);
                    return opensBracket(kind);
                case MULTIPOINT:
                    keepKind(POINT);
                    if (beginsNumber(here())) {
                        draft.addOneAt(draft.numbers - 1);
                        readPoint();
                        return false;
                    }
                    return opensBracket(POINT);
                case MULTILINESTRING:
                case MULTIPOLYGON:
                    keepKind(around - PART_STEP);
                    return opensBracket(around - PART_STEP);
                case POLYGON:
                    return opensRing();
                default:
                    readPoint();
                    return false;
            }
        }

        /** Leaves the brackets that end behind an item, up to a comma: whether there is one. */
        private boolean goesOn() {
            for (int turn = 0; turn < OPEN_LIMIT && open.top > 0; turn++) {
                skipBlanks();
                if (here() == ',' && open.kind() != POINT) {
                    place++;
                    return true;
                }
                pass(')');
                open.close();
            }
            return false;
        }

        private int readKind() {
            int begin = place;
            if (!isLetter(here())) {
                failHere();
            }
            passLetters();
            int kind = kindFrom(begin);
            if (kind == NONE) {
                fail(WORD, begin);
            }
            // Only collections have shapes in them, so all that is open around one is a collection.
            if (kind == COLLECTION && open.top >= COLLECTIONS_LIMIT) {
                fail(DEEP, begin);
            }
            return kind;
        }

        private void keepKind(int kind) {
            if (!draft.hasRoomFor(2)) {
                fail(FULL, place);
            }
            draft.addNumber(kind);
            draft.addNumber(0);
        }

        private boolean opensBracket(int kind) {
            if (isLetter(here())) {
                passEmpty();
                return false;
            }
            pass('(');
            open.open(kind, draft.numbers - 1);
            return true;
        }

        private boolean opensRing() {
            if (!draft.hasRoomFor(1)) {
                fail(FULL, place);
            }
            draft.addNumber(0);
            pass('(');
            open.open(RING, draft.numbers - 1);
            return true;
        }

        private void readPoint() {
            if (!draft.hasRoomForPoint()) {
                fail(FULL, place);
            }
            int x = readNumber();
            // A number has no sign, digit or dot right behind it, so only a blank can part the two.
            skipBlanks();
            int y = readNumber();
            draft.addPoint(x, y);
        }

        private int readNumber() {
            int begin = place;
            if (!beginsNumber(here())) {
                failHere();
            }
            boolean below = here() == '-';
            passSign();
            int first = place;
            int whole = passDigits();
            int all = whole;
            if (here() == '.') {
                place++;
                all += passDigits();
            }
            int behind = place;
            int exponent = here() == 'e' || here() == 'E' ? readExponent(begin) : 0;
            if (all == 0 || isLetter(here()) || beginsNumber(here())) {
                fail(NUMBER, begin);
            }
            long units = roundedUnits(first, behind, whole + exponent + digits);
            if (units > ORDINATE_LIMIT) {
                fail(RANGE, begin);
            }
            return (int) (below ? -units : units);
        }

        private int readExponent(int numberBegin) {
            place++;
            boolean below = here() == '-';
            passSign();
            int first = place;
            int exponent = 0;
            while (place < length && isDigit(text[place])) {
                exponent = Math.min(10 * exponent + text[place] - '0', EXPONENT_LIMIT);
                place++;
            }
            if (place == first) {
                fail(NUMBER, numberBegin);
            }
            return below ? -exponent : exponent;
        }

        /** The digits of text[first .. behind - 1], of which so many are whole units, rounded to units. */
        private long roundedUnits(int first, int behind, int whole) {
            long units = 0;
            int seen = 0;
            int tenths = 0;
            boolean more = false;
            for (int i = first; i < behind; i++) {
                if (isDigit(text[i])) {
                    int digit = text[i] - '0';
                    if (seen < whole) {
                        units = tenfold(units) + digit;
                    } else if (seen == whole) {
                        tenths = digit;
                    } else {
                        more |= digit != 0;
                    }
                    seen++;
                }
            }
            // Zeros that are not written: none changes 0, and ten make any other number too large.
            for (int i = 0; i < 10 && seen + i < whole; i++) {
                units = tenfold(units);
            }
            boolean odd = (units & 1) == 1;
            return tenths > 5 || tenths == 5 && (more || odd) ? units + 1 : units;
        }

        /** A number of units that is too large already is left so, that it may not overflow. */
        private static long tenfold(long units) {
            return units > ORDINATE_LIMIT ? units : 10 * units;
        }

        private int kindFrom(int begin) {
            for (int kind = POINT; kind <= COLLECTION; kind++) {
                if (isWord(begin, wordOf(kind))) {
                    return kind;
                }
            }
            return NONE;
        }

        private void passEmpty() {
            int begin = place;
            passLetters();
            if (!isWord(begin, EMPTY_WORD)) {
                fail(WORD, begin);
            }
        }

        /** Whether the letters from begin to here are the word. */
        private boolean isWord(int begin, String word) {
            if (place - begin != word.length()) {
                return false;
            }
            for (int i = begin; i < place; i++) {
                if ((text[i] & ~32) != word.charAt(i - begin)) {
                    return false;
                }
            }
            return true;
        }

        private void pass(int wanted) {
            if (here() != wanted) {
                failHere();
            }
            place++;
        }

        private void passSign() {
            if (place < length && (text[place] == '+' || text[place] == '-')) {
                place++;
            }
        }

        private int passDigits() {
            int first = place;
            while (place < length && isDigit(text[place])) {
                place++;
            }
            return place - first;
        }

        private void passLetters() {
            while (place < length && isLetter(text[place])) {
                place++;
            }
        }

        private void skipBlanks() {
            while (place < length && isBlank(text[place])) {
                place++;
            }
        }

        private int here() {
            return place < length ? text[place] & 255 : END;
        }

        private void failHere() {
            int b = here();
            boolean isUsed = isLetter(b) || beginsNumber(b) || b == '(' || b == ')' || b == ',';
            fail(b == END || isUsed ? EXPECTED : CHARACTER, place);
        }

        private void fail(int kind, int where) {
            faultKind = kind;
            faultPlace = where;
            throw new IllegalArgumentException("something is wrong in the text");
        }

        private static boolean isBlank(int b) {
            return b == ' ' || b == '\t' || b == '\n' || b == '\r';
        }

        private static boolean isLetter(int b) {
            return b >= 'A' && b <= 'Z' || b >= 'a' && b <= 'z';
        }

        private static boolean isDigit(int b) {
            return b >= '0' && b <= '9';
        }

        private static boolean beginsNumber(int b) {
            return b >= '0' && b <= '9' || b == '+' || b == '-' || b == '.';
        }
    }

    /** Writes a shape, or only measures how long it is when written. */
    private static final class Writer {
        /** More than the digits of any ordinate. */
        private static final int DECIMALS_LIMIT = 12;

        private final byte[] bytes = new byte[RESULT_LIMIT];
        private final int digits;
        private final int[] decimals = new int[DECIMALS_LIMIT];
        /** The number kept with what is open is how many items are still to come in it. */
        private final Brackets open = new Brackets();
        private int length;
        private boolean keeps;
        private int laid;
        private int nextNumber;
        private int nextPoint;
        private boolean isFirst;

        Writer(int digits) {
            this.digits = digits;
        }

        int lay(Shape shape, boolean keepsBytes) {
            keeps = keepsBytes;
            laid = 0;
            nextNumber = 0;
            nextPoint = 0;
            isFirst = true;
            open.start(1);
            // Each item takes a number of the plan or a point, and no number opens two brackets.
            int turns = 2 * shape.numbers + shape.points;
            for (int turn = 0; turn < turns && (open.top > 0 || open.number() > 0); turn++) {
                if (open.number() > 0) {
                    layItem(shape);
                } else {
                    put(')');
                    open.close();
                }
            }
            return laid;
        }

        private void layItem(Shape shape) {
            if (!isFirst) {
                put(',');
                put(' ');
            }
            isFirst = false;
            open.lessOne();
            switch (open.kind()) {
                case TEXT:
                case COLLECTION:
                    layWord(wordOf(shape.numberAt(nextNumber)));
                    put(' ');
                    layBody(takeNumber(shape), takeNumber(shape));
                    break;
                case MULTIPOINT:
                case MULTILINESTRING:
                case MULTIPOLYGON:
                    layBody(takeNumber(shape), takeNumber(shape));
                    break;
                case POLYGON:
                    layBody(RING, takeNumber(shape));
                    break;
                default:
                    layPoint(shape);
                    break;
            }
        }

        private int takeNumber(Shape shape) {
            int number = shape.numberAt(nextNumber);
            nextNumber++;
            return number;
        }

        private void layBody(int kind, int items) {
            if (items == 0) {
                layWord(EMPTY_WORD);
                return;
            }
            put('(');
            open.open(kind, items);
            isFirst = true;
        }

        private void layPoint(Shape shape) {
            layNumber(shape.ordinateAt(nextPoint, 0));
            put(' ');
            layNumber(shape.ordinateAt(nextPoint, 1));
            nextPoint++;
        }

        private void layNumber(int value) {
            if (value < 0) {
                put('-');
            }
            int rest = value < 0 ? -value : value;
            int used = 0;
            // Lowest first, with at least one digit before the dot.
            while (used < DECIMALS_LIMIT && (used <= digits || rest > 0)) {
                decimals[used] = rest % 10;
                rest /= 10;
                used++;
            }
            int lowest = 0;
            while (lowest < digits && decimals[lowest] == 0) {
                lowest++;
            }
            for (int i = used - 1; i >= lowest; i--) {
                if (i == digits - 1) {
                    put('.');
                }
                put('0' + decimals[i]);
            }
        }

        private void layWord(String word) {
            for (int i = 0; i < word.length(); i++) {
                put(word.charAt(i));
            }
        }

        private void put(int b) {
            if (keeps && laid < RESULT_LIMIT) {
                bytes[laid] = (byte) b;
            }
            laid++;
        }
    }
}
