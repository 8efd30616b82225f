/**
 * Texts of queries over a schema: paths or counts, sums, leasts and greatests, a condition, groups:
 * read, checked for types, turned into a row of steps; what can't stand is told by its place.
 */
public final class QueryText {

    public static final int NONE = -1;

    private static final int TOO_FEW_BYTES = -2;

    private static final int MOST_FIELDS = 64;
    private static final int MOST_NAME_BYTES = 16;
    private static final int MOST_BYTES = 2000;
    private static final int BYTES_A_FEED = 20;
    private static final int MOST_ITEMS = 16;
    private static final int MOST_BEHIND_BY = 8;
    private static final int MOST_NESTED = 32;
    private static final int MOST_STEPS = 64;
    private static final int MOST_LITERALS = 64;
    private static final int MOST_TEXT_BYTES = 255;
    // Beside the nots and brackets an and and an or may wait in each bracket and outside of all.
    private static final int MOST_WAITING = 3 * MOST_NESTED + 2;

    private static final int KIND_REPEATED = 2;

    private static final int TYPE_BOOL = 0;
    private static final int TYPE_INT = 1;
    private static final int TYPE_LONG = 2;
    private static final int TYPE_TEXT = 3;
    private static final int TYPE_GROUP = 4;

    private static final int ITEM_PARTS = 2;
    private static final int ITEM_PATH = 0;
    private static final int ITEM_COUNT = 1;
    private static final int ITEM_COUNT_OF = 2;

    private static final int STEP_PARTS = 5;
    private static final int STEP_NULL = 0;
    private static final int STEP_NOT_NULL = 1;
    private static final int STEP_IN = 2;
    private static final int STEP_LITERAL = 3;
    private static final int STEP_FIELD = 4;
    private static final int STEP_NOT = 5;
    private static final int STEP_AND = 6;
    private static final int STEP_OR = 7;

    // A reserved word's token is its number in this text, so both must keep one order.
    private static final String RESERVED =
            "select where group by and or not is null in true false count sum min max ";
    private static final int SELECT = 0;
    private static final int WHERE = 1;
    private static final int GROUP = 2;
    private static final int BY = 3;
    private static final int AND = 4;
    private static final int OR = 5;
    private static final int NOT = 6;
    private static final int IS = 7;
    private static final int NULL = 8;
    private static final int IN = 9;
    private static final int TRUE = 10;
    private static final int FALSE = 11;
    private static final int COUNT = 12;
    private static final int SUM = 13;
    private static final int MAX = 15;
    private static final int NAME = 16;
    private static final int NUMBER = 17;
    private static final int TEXT = 18;
    private static final int COMMA = 19;
    private static final int OPEN = 20;
    private static final int CLOSE = 21;
    // The operators' tokens follow one another in the order of the document's numbers.
    private static final int EQUAL = 22;
    private static final int UNEQUAL = 23;
    private static final int LESS = 24;
    private static final int LESS_OR_EQUAL = 25;
    private static final int GREATER = 26;
    private static final int GREATER_OR_EQUAL = 27;
    private static final int STRAY = 28;
    private static final int END = 29;

    private static final long LEAST_LONG = -9223372036854775808L;

    private final Tape tape;
    private final Schema schema;
    private final Parser parser;
    private final Plan plan;

    public QueryText() {
        tape = new Tape();
        schema = new Schema(tape);
        parser = new Parser(tape, schema);
        plan = new Plan();
    }

    public boolean feed(int a, int b, int c, int d, int e) {
        if (!tape.hasRoom()) {
            return false;
        }
        tape.put(a);
        tape.put(b);
        tape.put(c);
        tape.put(d);
        tape.put(e);
        return true;
    }

    public int field(int group, int kind, int type, int n) {
        if (!tape.cut(n)) {
            return TOO_FEW_BYTES;
        }
        int added = schema.add(group, kind, type);
        tape.clear();
        plan.clear();
        return added;
    }

    public int query(int n) {
        if (!tape.cut(n)) {
            return TOO_FEW_BYTES;
        }
        parser.begin();
        if (parser.readItems() && parser.readWhere() && parser.readGroup()) {
            parser.checkItems();
        }
        tape.clear();
        if (parser.fault == NONE) {
            plan.copy(parser.draft);
        }
        return parser.fault;
    }

    public int count(int what) {
        switch (what) {
            case 0:
                return plan.itemCount;
            case 1:
                return plan.byCount;
            case 2:
                return plan.stepCount;
            case 3:
                return plan.literalCount;
            case 4:
                return plan.collects() ? 1 : 0;
            default:
                return NONE;
        }
    }

    public int item(int i, int what) {
        if (i < 0 || i >= plan.itemCount || what < 0 || what >= ITEM_PARTS) {
            return NONE;
        }
        return plan.items[i * ITEM_PARTS + what];
    }

    public int by(int i) {
        return i >= 0 && i < plan.byCount ? plan.behindBy[i] : NONE;
    }

    public int step(int i, int what) {
        if (i < 0 || i >= plan.stepCount || what < 0 || what >= STEP_PARTS) {
            return NONE;
        }
        return plan.steps[i * STEP_PARTS + what];
    }

    public int literal(int i) {
        return plan.hasLiteral(i) ? plan.literalTypes[i] : NONE;
    }

    public long number(int i) {
        return plan.hasLiteral(i) ? plan.numbers[i] : 0L;
    }

    public int length(int i) {
        return plan.hasText(i) ? plan.textLengths[i] : NONE;
    }

    public int byteOf(int i, int k) {
        if (!plan.hasText(i) || k < 0 || k >= plan.textLengths[i]) {
            return NONE;
        }
        return plan.textBytes[plan.textStarts[i] + k];
    }

    private static boolean isLetter(int b) {
        return b >= 'a' && b <= 'z' || b >= 'A' && b <= 'Z';
    }

    private static boolean isDigit(int b) {
        return b >= '0' && b <= '9';
    }

    private static boolean isWordByte(int b) {
        return b >= 'a' && b <= 'z' || b >= 'A' && b <= 'Z' || b >= '0' && b <= '9' || b == '_';
    }

    private static boolean isBlank(int b) {
        return b == ' ' || b == '\n';
    }

    /** What a digit of \x stands for, NONE if it is none: capitals are none. */
    private static int hexValue(int b) {
        if (b >= '0' && b <= '9') {
            return b - '0';
        }
        return b >= 'a' && b <= 'f' ? b - 'a' + 10 : NONE;
    }

    /** The bytes that have been fed and not yet been used for a name or a query. */
    private static final class Tape {
        private final int[] bytes = new int[MOST_BYTES];
        private int size;

        boolean hasRoom() {
            return size + BYTES_A_FEED <= MOST_BYTES;
        }

        void put(int four) {
            for (int shift = 24; shift >= 0 && size < MOST_BYTES; shift -= 8) {
                bytes[size] = four >>> shift & 255;
                size++;
            }
        }

        /** Leaves the first n bytes alone; where there are not so many all stay. */
        boolean cut(int n) {
            if (n < 0 || n > size) {
                return false;
            }
            size = n;
            return true;
        }

        void clear() {
            size = 0;
        }

        int at(int i) {
            return i >= 0 && i < size ? bytes[i] : NONE;
        }
    }

    /** The fields; names are compared with bytes that lie on the tape. */
    private static final class Schema {
        private final Tape tape;
        private final int[] names = new int[MOST_FIELDS * MOST_NAME_BYTES];
        private final int[] nameLengths = new int[MOST_FIELDS];
        private final int[] groups = new int[MOST_FIELDS];
        private final int[] types = new int[MOST_FIELDS];
        private final boolean[] flat = new boolean[MOST_FIELDS];
        private int size;

        Schema(Tape tape) {
            this.tape = tape;
        }

        /** Makes a field that bears the tape's bytes as its name. */
        int add(int group, int kind, int type) {
            if (size >= MOST_FIELDS || kind < 0 || kind > KIND_REPEATED || type < TYPE_BOOL || type > TYPE_GROUP) {
                return NONE;
            }
            if (group != NONE && typeOf(group) != TYPE_GROUP) {
                return NONE;
            }
            if (!isName() || find(group, 0, tape.size) != NONE) {
                return NONE;
            }
            for (int i = 0; i < tape.size && i < MOST_NAME_BYTES; i++) {
                names[size * MOST_NAME_BYTES + i] = tape.at(i);
            }
            nameLengths[size] = tape.size;
            groups[size] = group;
            types[size] = type;
            flat[size] = kind != KIND_REPEATED && (group == NONE || flat[group]);
            size++;
            return size - 1;
        }

        private boolean isName() {
            if (tape.size > MOST_NAME_BYTES || !isLetter(tape.at(0))) {
                return false;
            }
            for (int i = 1; i < tape.size; i++) {
                if (!isWordByte(tape.at(i))) {
                    return false;
                }
            }
            return true;
        }

        /** The field of a group (or, with NONE, of the record) whose name lies on the tape from start to end. */
        int find(int group, int start, int end) {
            for (int f = 0; f < size; f++) {
                if (groups[f] == group && nameLengths[f] == end - start && bearsName(f, start)) {
                    return f;
                }
            }
            return NONE;
        }

        private boolean bearsName(int f, int start) {
            for (int i = 0; i < nameLengths[f]; i++) {
                if (names[f * MOST_NAME_BYTES + i] != tape.at(start + i)) {
                    return false;
                }
            }
            return true;
        }

        int typeOf(int f) {
            return f >= 0 && f < size ? types[f] : NONE;
        }

        boolean isFlatValue(int f) {
            return f >= 0 && f < size && flat[f] && types[f] != TYPE_GROUP;
        }
    }

    /** What a query says; without a query all counts are 0. */
    private static final class Plan {
        private final int[] items = new int[MOST_ITEMS * ITEM_PARTS];
        private final int[] behindBy = new int[MOST_BEHIND_BY];
        private final int[] steps = new int[MOST_STEPS * STEP_PARTS];
        private final int[] literalTypes = new int[MOST_LITERALS];
        private final long[] numbers = new long[MOST_LITERALS];
        private final int[] textStarts = new int[MOST_LITERALS];
        private final int[] textLengths = new int[MOST_LITERALS];
        private final int[] textBytes = new int[MOST_BYTES];
        private int itemCount;
        private int byCount;
        private int stepCount;
        private int literalCount;
        private int textEnd;

        void clear() {
            itemCount = 0;
            byCount = 0;
            stepCount = 0;
            literalCount = 0;
            textEnd = 0;
        }

        void copy(Plan other) {
            System.arraycopy(other.items, 0, items, 0, MOST_ITEMS * ITEM_PARTS);
            System.arraycopy(other.behindBy, 0, behindBy, 0, MOST_BEHIND_BY);
            System.arraycopy(other.steps, 0, steps, 0, MOST_STEPS * STEP_PARTS);
            System.arraycopy(other.literalTypes, 0, literalTypes, 0, MOST_LITERALS);
            System.arraycopy(other.numbers, 0, numbers, 0, MOST_LITERALS);
            System.arraycopy(other.textStarts, 0, textStarts, 0, MOST_LITERALS);
            System.arraycopy(other.textLengths, 0, textLengths, 0, MOST_LITERALS);
            System.arraycopy(other.textBytes, 0, textBytes, 0, MOST_BYTES);
            itemCount = other.itemCount;
            byCount = other.byCount;
            stepCount = other.stepCount;
            literalCount = other.literalCount;
            textEnd = other.textEnd;
        }

        boolean addItem(int sort, int f) {
            if (itemCount >= MOST_ITEMS) {
                return false;
            }
            items[itemCount * ITEM_PARTS] = sort;
            items[itemCount * ITEM_PARTS + 1] = f;
            itemCount++;
            return true;
        }

        boolean addBehindBy(int f) {
            if (byCount >= MOST_BEHIND_BY || isBehindBy(f)) {
                return false;
            }
            behindBy[byCount] = f;
            byCount++;
            return true;
        }

        boolean addStep(int kind, int f, int operator, int first, int literals) {
            if (stepCount >= MOST_STEPS) {
                return false;
            }
            int at = stepCount * STEP_PARTS;
            steps[at] = kind;
            steps[at + 1] = f;
            steps[at + 2] = operator;
            steps[at + 3] = first;
            steps[at + 4] = literals;
            stepCount++;
            return true;
        }

        void addTextByte(int b) {
            if (textEnd < MOST_BYTES) {
                textBytes[textEnd] = b;
                textEnd++;
            }
        }

        /** A new literal; if it is a TEXT, its bytes have been added since textStart. */
        boolean addLiteral(int type, long value, int textStart) {
            if (literalCount >= MOST_LITERALS) {
                return false;
            }
            literalTypes[literalCount] = type;
            numbers[literalCount] = value;
            textStarts[literalCount] = textStart;
            textLengths[literalCount] = textEnd - textStart;
            literalCount++;
            return true;
        }

        boolean isBehindBy(int f) {
            for (int i = 0; i < byCount; i++) {
                if (behindBy[i] == f) {
                    return true;
                }
            }
            return false;
        }

        boolean collects() {
            boolean found = byCount > 0;
            for (int i = 0; i < itemCount; i++) {
                found = found || items[i * ITEM_PARTS] != ITEM_PATH;
            }
            return found;
        }

        boolean hasLiteral(int i) {
            return i >= 0 && i < literalCount;
        }

        boolean hasText(int i) {
            return i >= 0 && i < literalCount && literalTypes[i] == TYPE_TEXT;
        }
    }

    /** Cuts the tape into tokens, always one ahead of what has been read. */
    private static final class Scanner {
        private final Tape tape;
        private int token;
        private int start;
        private int end;
        private long numberRead;
        private int escaped;
        private int bytesBehind;

        Scanner(Tape tape) {
            this.tape = tape;
        }

        void begin() {
            end = 0;
            advance();
        }

        void advance() {
            start = end;
            while (start < tape.size && isBlank(tape.at(start))) {
                start++;
            }
            int first = tape.at(start);
            if (first == NONE) {
                end = start;
                token = END;
                return;
            }
            end = start + 1;
            if (!isLetter(first)) {
                token = signToken(first);
                return;
            }
            while (end < tape.size && isWordByte(tape.at(end))) {
                end++;
            }
            token = wordToken();
        }

        /** Goes over the sign within a PATH, if it stands right behind the token. */
        boolean passDot() {
            if (tape.at(end) != '.') {
                return false;
            }
            end++;
            return true;
        }

        boolean isLetterBehind() {
            return isLetter(tape.at(end));
        }

        private int wordToken() {
            int word = 0;
            int alike = 0;
            for (int i = 0; i < RESERVED.length(); i++) {
                char c = RESERVED.charAt(i);
                if (c != ' ') {
                    alike = alike != NONE && start + alike < end && tape.at(start + alike) == c ? alike + 1 : NONE;
                } else if (alike == end - start) {
                    return word;
                } else {
                    word++;
                    alike = 0;
                }
            }
            return NAME;
        }

        /** A NUMBER or TEXT is not read here: what is wrong in it counts only where a literal may be. */
        private int signToken(int first) {
            switch (first) {
                case ',':
                    return COMMA;
                case '(':
                    return OPEN;
                case ')':
                    return CLOSE;
                case '\'':
                    return TEXT;
                case '-':
                    return NUMBER;
                case '=':
                    return EQUAL;
                case '<':
                case '>':
                    return orderToken(first == '<', tape.at(end));
                default:
                    return first >= '0' && first <= '9' ? NUMBER : STRAY;
            }
        }

        private int orderToken(boolean isLess, int second) {
            if (second == '=') {
                end++;
                return isLess ? LESS_OR_EQUAL : GREATER_OR_EQUAL;
            }
            if (isLess && second == '>') {
                end++;
                return UNEQUAL;
            }
            return isLess ? LESS : GREATER;
        }

        /** Reads the NUMBER that begins the token: the place of what can't stand, or NONE. */
        int readNumber() {
            boolean minus = tape.at(start) == '-';
            int first = minus ? start + 1 : start;
            if (first >= tape.size) {
                return tape.size;
            }
            // Below 0 there is one number more than above it, so the value is gathered there.
            long value = 0L;
            boolean fits = true;
            int at = first;
            while (at < tape.size && isDigit(tape.at(at))) {
                int digit = tape.at(at) - '0';
                fits = fits && value >= LEAST_LONG / 10L && value * 10L >= LEAST_LONG + digit;
                value = value * 10L - digit;
                at++;
            }
            boolean zeroInFront = tape.at(first) == '0' && (minus || at > first + 1);
            if (at == first || zeroInFront || !fits || !minus && value == LEAST_LONG) {
                return start;
            }
            numberRead = minus ? value : -value;
            end = at;
            return NONE;
        }

        /** Reads the TEXT that begins the token: the place of what can't stand, or NONE. */
        int readText(Plan plan) {
            int bytes = 0;
            for (int at = start + 1; at < tape.size; at++) {
                int b = tape.at(at);
                if (b == '\'') {
                    end = at + 1;
                    return NONE;
                }
                if (bytes >= MOST_TEXT_BYTES || b < 32 || b > 126) {
                    return at;
                }
                if (b == '\\') {
                    int fault = readEscape(at);
                    if (fault != NONE) {
                        return fault;
                    }
                    b = escaped;
                    at += bytesBehind;
                }
                plan.addTextByte(b);
                bytes++;
            }
            return tape.size;
        }

        /** Reads \\ and what is behind it: the place of what can't stand, or NONE. */
        private int readEscape(int at) {
            int sort = tape.at(at + 1);
            if (sort == '\'' || sort == '\\') {
                escaped = sort;
                bytesBehind = 1;
                return NONE;
            }
            if (sort != 'x') {
                return sort == NONE ? tape.size : at;
            }
            int high = hexValue(tape.at(at + 2));
            int low = hexValue(tape.at(at + 3));
            if (high == NONE) {
                return at + 2 < tape.size ? at : tape.size;
            }
            if (low == NONE) {
                return at + 3 < tape.size ? at : tape.size;
            }
            escaped = high * 16 + low;
            bytesBehind = 3;
            return NONE;
        }
    }

    /** Reads the tape as a query into a draft, so that the query before stays if it can't stand. */
    private static final class Parser {
        private final Schema schema;
        private final Scanner scanner;
        private final Plan draft = new Plan();
        private final int[] itemPlaces = new int[MOST_ITEMS];
        private final int[] waitingSigns = new int[MOST_WAITING];
        private final int[] waitingPlaces = new int[MOST_WAITING];
        private int waiting;
        private int nested;
        private int fault;

        Parser(Tape tape, Schema schema) {
            this.schema = schema;
            scanner = new Scanner(tape);
        }

        void begin() {
            fault = NONE;
            draft.clear();
            scanner.begin();
        }

        private boolean refuse(int place) {
            if (fault == NONE) {
                fault = place;
            }
            return false;
        }

        private boolean take(int token) {
            if (scanner.token != token) {
                return refuse(scanner.start);
            }
            scanner.advance();
            return true;
        }

        boolean readItems() {
            if (!take(SELECT)) {
                return false;
            }
            for (int i = 0; i < MOST_ITEMS; i++) {
                itemPlaces[i] = scanner.start;
                if (!readItem()) {
                    return false;
                }
                if (scanner.token != COMMA) {
                    return true;
                }
                scanner.advance();
            }
            return refuse(scanner.start);
        }

        private boolean readItem() {
            int token = scanner.token;
            int place = scanner.start;
            if (token < COUNT || token > MAX) {
                int f = readPath();
                return f != NONE && (draft.addItem(ITEM_PATH, f) || refuse(place));
            }
            scanner.advance();
            if (token == COUNT && scanner.token != OPEN) {
                return draft.addItem(ITEM_COUNT, NONE) || refuse(place);
            }
            if (!take(OPEN)) {
                return false;
            }
            int pathPlace = scanner.start;
            int f = readPath();
            if (f == NONE) {
                return false;
            }
            if (!schema.isFlatValue(f) || token == SUM && !isOfNumbers(schema.typeOf(f))) {
                return refuse(pathPlace);
            }
            return take(CLOSE) && (draft.addItem(ITEM_COUNT_OF + token - COUNT, f) || refuse(place));
        }

        private boolean isOfNumbers(int type) {
            return type == TYPE_INT || type == TYPE_LONG;
        }

        /** Reads a PATH: its field, or NONE when it has been refused. */
        private int readPath() {
            int place = scanner.start;
            int f = NONE;
            // Names are read on even when one names nothing: a byte that can't stand behind it is met first.
            for (int names = 0; names <= MOST_BYTES; names++) {
                if (scanner.token != NAME) {
                    refuse(scanner.start);
                    return NONE;
                }
                if (names == 0 || f != NONE) {
                    f = schema.find(f, scanner.start, scanner.end);
                }
                if (!scanner.passDot()) {
                    break;
                }
                if (!scanner.isLetterBehind()) {
                    refuse(scanner.end);
                    return NONE;
                }
                scanner.advance();
            }
            scanner.advance();
            if (f == NONE) {
                refuse(place);
            }
            return f;
        }

        boolean readWhere() {
            if (scanner.token != WHERE) {
                return true;
            }
            scanner.advance();
            waiting = 0;
            nested = 0;
            boolean goesOn = true;
            for (int tests = 0; tests <= MOST_BYTES && goesOn; tests++) {
                if (!openTests() || !readTest() || !closeTests()) {
                    return false;
                }
                int sign = scanner.token;
                goesOn = sign == AND || sign == OR;
                if (goesOn && !await()) {
                    return false;
                }
            }
            return true;
        }

        /** Puts the token aside till what it joins has been read: a row of them serves instead of recursion. */
        private boolean await() {
            if (waiting >= MOST_WAITING) {
                return refuse(scanner.start);
            }
            waitingSigns[waiting] = scanner.token;
            waitingPlaces[waiting] = scanner.start;
            waiting++;
            scanner.advance();
            return true;
        }

        private boolean openTests() {
            for (int i = 0; i <= MOST_NESTED && (scanner.token == NOT || scanner.token == OPEN); i++) {
                if (nested >= MOST_NESTED) {
                    return refuse(scanner.start);
                }
                nested++;
                if (!await()) {
                    return false;
                }
            }
            return true;
        }

        /** Joins what is complete behind a test, as far as the next token lets it be. */
        private boolean closeTests() {
            for (int i = 0; i <= MOST_NESTED; i++) {
                if (!join(NOT, STEP_NOT) || !join(AND, STEP_AND)) {
                    return false;
                }
                if (scanner.token == AND) {
                    return true;
                }
                if (!join(OR, STEP_OR)) {
                    return false;
                }
                if (scanner.token == OR || waiting == 0) {
                    return true;
                }
                if (!take(CLOSE)) {
                    return false;
                }
                waiting--;
                nested--;
            }
            return true;
        }

        private boolean join(int sign, int kind) {
            while (waiting > 0 && waitingSigns[waiting - 1] == sign) {
                waiting--;
                if (sign == NOT) {
                    nested--;
                }
                if (!draft.addStep(kind, NONE, NONE, NONE, 0)) {
                    return refuse(waitingPlaces[waiting]);
                }
            }
            return true;
        }

        private boolean readTest() {
            int place = scanner.start;
            int f = readPath();
            if (f == NONE) {
                return false;
            }
            if (!schema.isFlatValue(f)) {
                return refuse(place);
            }
            int token = scanner.token;
            if (token == IS) {
                return readIsNull(f, place);
            }
            if (token == IN) {
                return readIn(f, place);
            }
            if (token >= EQUAL && token <= GREATER_OR_EQUAL) {
                return readCompared(f, place);
            }
            return refuse(scanner.start);
        }

        private boolean readIsNull(int f, int place) {
            scanner.advance();
            int kind = STEP_NULL;
            if (scanner.token == NOT) {
                kind = STEP_NOT_NULL;
                scanner.advance();
            }
            return take(NULL) && (draft.addStep(kind, f, NONE, NONE, 0) || refuse(place));
        }

        private boolean readIn(int f, int place) {
            scanner.advance();
            if (!take(OPEN)) {
                return false;
            }
            int first = draft.literalCount;
            for (int i = 0; i <= MOST_LITERALS; i++) {
                if (!readLiteral(f)) {
                    return false;
                }
                if (scanner.token != COMMA) {
                    break;
                }
                scanner.advance();
            }
            int literals = draft.literalCount - first;
            return take(CLOSE) && (draft.addStep(STEP_IN, f, NONE, first, literals) || refuse(place));
        }

        private boolean readCompared(int f, int place) {
            int operator = scanner.token - EQUAL;
            scanner.advance();
            if (scanner.token != NAME) {
                int first = draft.literalCount;
                return readLiteral(f) && (draft.addStep(STEP_LITERAL, f, operator, first, 1) || refuse(place));
            }
            int otherPlace = scanner.start;
            int other = readPath();
            if (other == NONE) {
                return false;
            }
            if (!schema.isFlatValue(other) || !canCompare(schema.typeOf(f), schema.typeOf(other))) {
                return refuse(otherPlace);
            }
            return draft.addStep(STEP_FIELD, f, operator, other, 0) || refuse(place);
        }

        private boolean canCompare(int type, int other) {
            return type == other || isOfNumbers(type) && isOfNumbers(other);
        }

        /** Reads a literal that is set against field f. */
        private boolean readLiteral(int f) {
            int place = scanner.start;
            int textStart = draft.textEnd;
            int type = TYPE_BOOL;
            long value = 0L;
            int wrong = NONE;
            switch (scanner.token) {
                case TRUE:
                    value = 1L;
                    break;
                case FALSE:
                    break;
                case NUMBER:
                    type = TYPE_LONG;
                    wrong = scanner.readNumber();
                    value = scanner.numberRead;
                    break;
                case TEXT:
                    type = TYPE_TEXT;
                    wrong = scanner.readText(draft);
                    break;
                default:
                    wrong = place;
            }
            if (wrong != NONE) {
                return refuse(wrong);
            }
            scanner.advance();
            return canCompare(schema.typeOf(f), type) && draft.addLiteral(type, value, textStart) || refuse(place);
        }

        /** Reads what may stand behind the condition, up to the text's end. */
        boolean readGroup() {
            if (scanner.token == GROUP) {
                scanner.advance();
                if (!take(BY) || !readBehindBy()) {
                    return false;
                }
            }
            return scanner.token == END || refuse(scanner.start);
        }

        private boolean readBehindBy() {
            for (int i = 0; i < MOST_BEHIND_BY; i++) {
                int place = scanner.start;
                int f = readPath();
                if (f == NONE) {
                    return false;
                }
                if (!schema.isFlatValue(f) || !draft.addBehindBy(f)) {
                    return refuse(place);
                }
                if (scanner.token != COMMA) {
                    return true;
                }
                scanner.advance();
            }
            return refuse(scanner.start);
        }

        /** Only at the end it is known whether the query collects, and what is behind by. */
        void checkItems() {
            if (!draft.collects()) {
                return;
            }
            for (int i = 0; i < draft.itemCount; i++) {
                boolean isPath = draft.items[i * ITEM_PARTS] == ITEM_PATH;
                if (isPath && !draft.isBehindBy(draft.items[i * ITEM_PARTS + 1])) {
                    refuse(itemPlaces[i]);
                }
            }
        }
    }
}
