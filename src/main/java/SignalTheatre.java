import java.util.Arrays;
import java.util.NoSuchElementException;

/**
 * Simulates digital circuits from their description.
 *
 * <p>A TEXT is cut into TOKENS, read once for its form, and read again for each instance while the
 * flat circuit is made of it; processes are then played from one row of code. The words in capitals
 * are those of the document.
 */
public final class SignalTheatre {
    private static final int MOST_INPUT = 32768;
    private static final int MOST_LOG = 32768;
    private static final int MOST_SIGNALS = 400;
    private static final int MOST_TASKS = 400;
    private static final int MOST_WORDS = 8192;
    private static final int MOST_TOKENS = 40000;
    private static final int MOST_INSTANCES = 100;
    private static final int MOST_DEEP = 20;
    private static final int MOST_DEPTH = 40;
    private static final int MOST_RUN = 20000;
    /** Sets of up to 400 numbers are kept as bits in this many longs. */
    private static final int SET_LONGS = 7;

    private final byte[] input = new byte[MOST_INPUT];
    private int length;
    private boolean built;
    private Circuit circuit;
    private Circuit spare;
    private final Faults faults;
    private final Builder builder;
    private final Stage stage;

    public SignalTheatre() {
        Tokens tokens = new Tokens();
        Faults found = new Faults(tokens);
        Maker maker = new Maker(tokens, found, new Worth());
        Reader reader = new Reader(tokens, found, maker);
        Worth worth = new Worth();
        circuit = new Circuit();
        spare = new Circuit();
        faults = found;
        builder = new Builder(tokens, found, maker, reader);
        stage = new Stage(new Agenda(), worth, new Book(worth));
    }

    public int feed(int a, int b, int c, int d, int e) throws IndexOutOfBoundsException {
        if (length + 20 > MOST_INPUT) {
            throw new IndexOutOfBoundsException();
        }
        append(a);
        append(b);
        append(c);
        append(d);
        append(e);
        return length;
    }

    private void append(int four) {
        for (int shift = 24; shift >= 0; shift -= 8) {
            input[length] = (byte) (four >> shift);
            length++;
        }
    }

    public int end(int n) throws IllegalArgumentException {
        if (n < 0 || n > length) {
            throw new IllegalArgumentException();
        }
        length -= n;
        return length;
    }

    public int build() throws IllegalStateException {
        int size = length;
        length = 0;
        spare.clear(input, size);
        builder.open(spare, size);
        for (int k = 0; k < MOST_INPUT && builder.isOpen(); k++) {
            builder.item();
        }
        builder.flatten();
        for (int k = 0; k < 2 * MOST_TOKENS && builder.isOpen(); k++) {
            builder.item();
        }
        Circuit made = spare;
        spare = circuit;
        circuit = made;
        built = true;
        stage.open(made);
        return made.signalCount;
    }

    public int fault(int what) throws IllegalArgumentException {
        if (what < 0 || what > 1) {
            throw new IllegalArgumentException();
        }
        return what == 0 ? faults.number : faults.place;
    }

    public int run(int n) throws IllegalArgumentException, IllegalStateException {
        if (n < 1 || n > MOST_RUN) {
            throw new IllegalArgumentException();
        }
        if (!built) {
            throw new IllegalStateException();
        }
        return stage.play(n);
    }

    public long value(int v, int w, int part)
            throws IllegalArgumentException, NoSuchElementException {
        if (part < 0 || part > 1) {
            throw new IllegalArgumentException();
        }
        if (!isThere(v, w)) {
            throw new NoSuchElementException();
        }
        int cell = circuit.signals[v].cell + w;
        return part == 0 ? circuit.ones[cell] : circuit.unknown[cell];
    }

    public void set(int v, int w, long ones, long unknown) throws NoSuchElementException {
        if (!isThere(v, w) || circuit.signals[v].sort != Signal.VARIABLE) {
            throw new NoSuchElementException();
        }
        stage.store(v, w * 64, circuit.signals[v].width, ones, unknown);
    }

    public int told(int v, int what)
            throws IllegalArgumentException, NoSuchElementException {
        if (what < 0 || what > 4) {
            throw new IllegalArgumentException();
        }
        if (!isSignal(v)) {
            throw new NoSuchElementException();
        }
        Signal signal = circuit.signals[v];
        switch (what) {
            case 0:
                return signal.width;
            case 1:
                return signal.signed ? 1 : 0;
            case 2:
                return signal.words;
            case 3:
                return signal.sort;
            default:
                return circuit.nameLength(v);
        }
    }

    public int letter(int v, int i) throws NoSuchElementException {
        if (!isSignal(v) || i < 0 || i >= circuit.nameLength(v)) {
            throw new NoSuchElementException();
        }
        return circuit.nameByte(v, i);
    }

    public int log(int i) throws IndexOutOfBoundsException {
        if (!built || i < 0 || i >= stage.book.size) {
            throw new IndexOutOfBoundsException();
        }
        return stage.book.bytes[i] & 255;
    }

    public long time() {
        return built ? stage.agenda.now : 0;
    }

    public int count(int what) {
        if (what == 0) {
            return length;
        }
        if (what < 0 || what > 11) {
            return -1;
        }
        return built ? stage.tally(what) : 0;
    }

    private boolean isSignal(int v) {
        return built && v >= 0 && v < circuit.signalCount;
    }

    private boolean isThere(int v, int w) {
        return isSignal(v) && w >= 0 && w < Math.max(1, circuit.signals[v].words);
    }

    /** The latest FAULT, and the one with the least PLACE found so far in what is being looked at. */
    private static final class Faults {
        /** Braces that are too wide: 4, unless something else is wrong in them. */
        static final int WIDE = 7;

        private final Tokens tokens;
        int number;
        int place = -1;
        private int foundNumber;
        private int foundPlace;
        /** Whether more than too wide braces was found: then widths are not to be trusted. */
        boolean hard;
        /** Whether others than those of the form are looked for. */
        boolean on;

        Faults(Tokens someTokens) {
            tokens = someTokens;
        }

        void note(int kind, int token) {
            if (!on || kind == WIDE && hard) {
                return;
            }
            hard = hard || kind != WIDE;
            int found = kind == WIDE ? 4 : kind;
            int where = tokens.place[token];
            boolean first = foundNumber == 0 || where < foundPlace;
            if (first || where == foundPlace && found < foundNumber) {
                foundNumber = found;
                foundPlace = where;
            }
        }

        boolean isFound() {
            return foundNumber != 0;
        }

        void settle() {
            if (foundNumber != 0) {
                refuse(foundNumber, foundPlace);
            }
        }

        void refuse(int kind, int where) {
            number = kind;
            place = where;
            throw new IllegalStateException();
        }

        void forget() {
            foundNumber = 0;
            hard = false;
            on = false;
        }
    }

    /** Cuts a TEXT into TOKENS and keeps them, the NAMES in them numbered. */
    private static final class Tokens {
        static final int NAME = 1;
        static final int NUMBER = 2;
        static final int STRING = 3;
        static final int WRONG = 4;
        static final int END = 5;
        // SIGNS of one byte stand for themselves; longer ones follow the order of SIGNS.
        static final int SAME = 128;
        static final int NOT_SAME = 129;
        static final int UP_SIGNED = 130;
        static final int DOWN_SIGNED = 131;
        static final int EQUAL = 132;
        static final int UNEQUAL = 133;
        static final int AT_MOST = 134;
        static final int AT_LEAST = 135;
        static final int UP = 136;
        static final int DOWN = 137;
        static final int BOTH = 138;
        static final int EITHER = 139;
        static final int NAND = 140;
        static final int NOR = 141;
        static final int XNOR = 142;
        private static final String SIGNS =
                "=== !== <<< >>> == != <= >= << >> && || ~& ~| ~^ ";
        /** What can stand behind the first byte of one of these. */
        private static final String SECOND_SIGNS = "=<>&|^";
        private static final String PLAIN_SIGNS = "()[]{};:,.#@*/%+-<>=!~&|^?";
        // Words follow the order of WORDS.
        static final int MODULE = 160;
        static final int PARAMETER = 161;
        static final int ENDMODULE = 162;
        static final int INPUT = 163;
        static final int OUTPUT = 164;
        static final int WIRE = 165;
        static final int WAND = 166;
        static final int WOR = 167;
        static final int REG = 168;
        static final int SIGNED = 169;
        static final int INTEGER = 170;
        static final int LOCALPARAM = 171;
        static final int ASSIGN = 172;
        static final int INITIAL = 173;
        static final int ALWAYS = 174;
        static final int BEGIN = 175;
        static final int END_BLOCK = 176;
        static final int WAIT = 177;
        static final int IF = 178;
        static final int ELSE = 179;
        static final int CASE = 180;
        static final int CASEZ = 181;
        static final int DEFAULT = 182;
        static final int ENDCASE = 183;
        static final int FOR = 184;
        static final int WHILE = 185;
        static final int REPEAT = 186;
        static final int FOREVER = 187;
        static final int OR = 188;
        static final int POSEDGE = 189;
        static final int NEGEDGE = 190;
        static final int DISPLAY = 191;
        static final int WRITE = 192;
        static final int FINISH = 193;
        static final int TIME = 194;
        static final int AS_SIGNED = 195;
        static final int AS_UNSIGNED = 196;
        private static final String WORDS = "module parameter endmodule input output wire wand wor reg signed integer localparam assign initial always begin end wait if else case casez default endcase for while repeat forever or posedge negedge $display $write $finish $time $signed $unsigned ";
        static final int MOST_NAMES = MOST_INPUT / 2 + 1;
        private static final int LONGEST_NAME = 64;
        private static final int HEADS = 1024;
        /** What digits are besides their numbers. */
        private static final int DIGIT_X = 16;
        private static final int DIGIT_Z = 17;

        byte[] text;
        int length;
        final int[] kind = new int[MOST_INPUT + 1];
        final int[] place = new int[MOST_INPUT + 1];
        /** Of a NAME or NUMBER which one it is; of a { whether copies are made in it. */
        final int[] info = new int[MOST_INPUT + 1];
        int size;
        private final int[] nameHead = new int[HEADS];
        private final int[] nameNext = new int[MOST_NAMES];
        private final int[] namePlace = new int[MOST_NAMES];
        final int[] nameLength = new int[MOST_NAMES];
        /** Which of WORDS a NAME is, -1: none, so it is one. */
        private final int[] nameWord = new int[MOST_NAMES];
        int names;
        /** NUMBERS: their bits, and their shapes. */
        final long[] numberOnes = new long[MOST_NAMES];
        final long[] numberUnknown = new long[MOST_NAMES];
        final int[] numberShape = new int[MOST_NAMES];
        private int numbers;
        /** The NUMBER that is being read. */
        private long ones;
        private long unknown;
        private int width;
        private boolean signed;

        void cut(byte[] bytes, int bytesThere) {
            text = bytes;
            length = bytesThere;
            size = 0;
            names = 0;
            numbers = 0;
            Arrays.fill(nameHead, -1);
            int at = skipped(0);
            for (int k = 0; k < MOST_INPUT && at >= 0 && at < length; k++) {
                int behind = token(at);
                at = behind < 0 ? behind : skipped(behind);
            }
            add(at < 0 ? WRONG : END, at < 0 ? ~at : length, 0);
        }

        private void add(int sort, int where, int more) {
            if (size <= MOST_INPUT) {
                kind[size] = sort;
                place[size] = where;
                info[size] = more;
                size++;
            }
        }

        private int byteAt(int at) {
            return at < length ? text[at] & 255 : -1;
        }

        /** The place behind the SPACES at a place; ~ of the place where a note that is open ends. */
        private int skipped(int from) {
            int at = from;
            while (at >= 0 && at < length) {
                int c = text[at];
                if (c == ' ' || c == 9 || c == 10 || c == 13) {
                    at++;
                } else if (c == '/' && byteAt(at + 1) == '/') {
                    at = behindLine(at);
                } else if (c == '/' && byteAt(at + 1) == '*') {
                    at = behindNote(at + 2);
                } else {
                    break;
                }
            }
            return at;
        }

        private int behindLine(int from) {
            int at = from;
            while (at < length && text[at] != 10) {
                at++;
            }
            return at;
        }

        private int behindNote(int from) {
            for (int at = from; at + 1 < length; at++) {
                if (text[at] == '*' && text[at + 1] == '/') {
                    return at + 2;
                }
            }
            return ~length;
        }

        /** Adds the TOKEN at a place; answers the place behind it, or ~ of the wrong one. */
        private int token(int at) {
            int c = byteAt(at);
            if (beginsName(c)) {
                return name(at);
            }
            if (isDigit(c) || c == '\'') {
                int behind = number(at);
                if (behind >= 0) {
                    addNumber(at);
                }
                return behind;
            }
            if (c == '$') {
                return system(at);
            }
            return c == '"' ? string(at) : sign(at);
        }

        private void addNumber(int at) {
            if (numbers < MOST_NAMES) {
                numberOnes[numbers] = ones;
                numberUnknown[numbers] = unknown;
                numberShape[numbers] = signed ? width | Code.SIGNED : width;
                add(NUMBER, at, numbers);
                numbers++;
            }
        }

        private static boolean isDigit(int c) {
            return c >= '0' && c <= '9';
        }

        private static boolean beginsName(int c) {
            return c >= 'a' && c <= 'z' || c >= 'A' && c <= 'Z' || c == '_';
        }

        private int behindName(int from) {
            int at = from;
            while (at < length && (beginsName(text[at]) || isDigit(text[at]))) {
                at++;
            }
            return at;
        }

        private int name(int at) {
            int behind = behindName(at);
            if (behind - at > LONGEST_NAME) {
                return ~(at + LONGEST_NAME);
            }
            int name = numberOf(at, behind - at);
            if (nameWord[name] >= 0) {
                add(MODULE + nameWord[name], at, 0);
            } else {
                add(NAME, at, name);
            }
            return behind;
        }

        private int system(int at) {
            if (!beginsName(byteAt(at + 1))) {
                return ~(at + 1);
            }
            int behind = behindName(at + 1);
            if (behind - at - 1 > LONGEST_NAME) {
                return ~(at + 1 + LONGEST_NAME);
            }
            int word = listed(WORDS, at, behind - at);
            add(word >= 0 ? MODULE + word : WRONG, at, 0);
            return behind;
        }

        private int string(int from) {
            for (int at = from + 1; at < length; at++) {
                int c = text[at] & 255;
                if (c == '"') {
                    add(STRING, from, 0);
                    return at + 1;
                }
                if (c < 32 || c > 126) {
                    return ~at;
                }
                if (c == '\\') {
                    at++;
                }
            }
            return ~length;
        }

        private int sign(int at) {
            boolean longer = at + 1 < length && SECOND_SIGNS.indexOf((char) byteAt(at + 1)) >= 0;
            for (int bytes = 3; bytes >= 2 && longer; bytes--) {
                int found = listed(SIGNS, at, bytes);
                if (found >= 0) {
                    add(SAME + found, at, 0);
                    return at + bytes;
                }
            }
            if (PLAIN_SIGNS.indexOf((char) byteAt(at)) < 0) {
                return ~at;
            }
            add(byteAt(at), at, 0);
            return at + 1;
        }

        /** Which word of a list, each with a space behind it, the bytes at a place are; -1: none. */
        private int listed(String list, int at, int bytes) {
            int index = 0;
            int start = 0;
            for (int k = 0; k < list.length(); k++) {
                if (list.charAt(k) == ' ') {
                    if (k - start == bytes && isAt(list, start, at, bytes)) {
                        return index;
                    }
                    index++;
                    start = k + 1;
                }
            }
            return -1;
        }

        private boolean isAt(String list, int start, int at, int bytes) {
            for (int k = 0; k < bytes; k++) {
                if (at + k >= length || text[at + k] != list.charAt(start + k)) {
                    return false;
                }
            }
            return true;
        }

        private int numberOf(int at, int bytes) {
            int hash = 0;
            for (int k = 0; k < bytes; k++) {
                hash = hash * 31 + text[at + k];
            }
            int head = (hash ^ hash >>> 12) & HEADS - 1;
            for (int known = nameHead[head]; known >= 0; known = nameNext[known]) {
                if (nameLength[known] == bytes && isEqual(namePlace[known], at, bytes)) {
                    return known;
                }
            }
            if (names >= MOST_NAMES) {
                return 0;
            }
            namePlace[names] = at;
            nameLength[names] = bytes;
            nameWord[names] = listed(WORDS, at, bytes);
            nameNext[names] = nameHead[head];
            nameHead[head] = names;
            names++;
            return names - 1;
        }

        private boolean isEqual(int one, int other, int bytes) {
            for (int k = 0; k < bytes; k++) {
                if (text[one + k] != text[other + k]) {
                    return false;
                }
            }
            return true;
        }

        /** Reads the NUMBER at a place; answers the place behind it, or ~ of the wrong one. */
        private int number(int from) {
            int at = from;
            long digits = 0;
            while (at < length && (isDigit(text[at]) || at > from && text[at] == '_')) {
                if (text[at] != '_') {
                    digits = digits * 10 + text[at] - '0';
                }
                if (digits > Integer.MAX_VALUE) {
                    return ~at;
                }
                at++;
            }
            ones = digits;
            unknown = 0;
            width = 32;
            signed = true;
            if (byteAt(at) != '\'') {
                return at;
            }
            if (at > from) {
                if (digits < 1 || digits > 64) {
                    return ~at;
                }
                width = (int) digits;
            }
            return based(at + 1);
        }

        private int based(int from) {
            int at = from;
            signed = lower(byteAt(at)) == 's';
            if (signed) {
                at++;
            }
            switch (lower(byteAt(at))) {
                case 'b':
                    return bits(at + 1, 1);
                case 'o':
                    return bits(at + 1, 3);
                case 'h':
                    return bits(at + 1, 4);
                case 'd':
                    return decimal(at + 1);
                default:
                    return ~at;
            }
        }

        private static int lower(int c) {
            return c >= 'A' && c <= 'Z' ? c + 32 : c;
        }

        private int bits(int from, int each) {
            long all = (1 << each) - 1;
            int highest = 0;
            int got = 0;
            int at = from;
            ones = 0;
            while (at < length) {
                int digit = digitOf(lower(byteAt(at)), each);
                if (digit >= 0) {
                    highest = got == 0 ? digit : highest;
                    got += each;
                    ones = ones << each | (digit == DIGIT_X ? all : digit == DIGIT_Z ? 0 : digit);
                    unknown = unknown << each | (digit >= DIGIT_X ? all : 0);
                } else if (got == 0 || text[at] != '_') {
                    break;
                }
                at++;
            }
            if (got == 0) {
                return ~at;
            }
            if (got < width && highest >= DIGIT_X) {
                unknown |= -1L << got;
                ones |= highest == DIGIT_X ? -1L << got : 0;
            }
            ones &= mask(width);
            unknown &= mask(width);
            return at;
        }

        private static int digitOf(int c, int each) {
            if (c == 'x') {
                return DIGIT_X;
            }
            if (c == 'z' || c == '?') {
                return DIGIT_Z;
            }
            int digit = c >= '0' && c <= '9' ? c - '0' : c >= 'a' && c <= 'f' ? c - 'a' + 10 : -1;
            return digit < 1 << each ? digit : -1;
        }

        private int decimal(int from) {
            int first = lower(byteAt(from));
            if (first == 'x' || first == 'z' || first == '?') {
                unknown = mask(width);
                ones = first == 'x' ? unknown : 0;
                return from + 1;
            }
            if (!isDigit(first)) {
                return ~from;
            }
            long most = 1844674407370955161L;
            int at = from;
            ones = 0;
            while (at < length && (isDigit(text[at]) || text[at] == '_')) {
                int digit = text[at] - '0';
                if (text[at] != '_') {
                    if (ones < 0 || ones > most || ones == most && digit > 5) {
                        return ~at;
                    }
                    ones = ones * 10 + digit;
                }
                at++;
            }
            ones &= mask(width);
            return at;
        }
    }

    /** The lowest bits, 1 to 64 of them. */
    private static long mask(int width) {
        return -1L >>> 64 - width;
    }

    /** The number that the lowest bits are if the highest of them is a sign. */
    private static long asSigned(long bits, int width) {
        return bits << 64 - width >> 64 - width;
    }

    /** Where a number lies in a row that begins with low; -1 if it is not there. */
    private static int within(long number, int low, int size) {
        long at = number - low;
        return number >= low && at >= 0 && at < size ? (int) at : -1;
    }

    /** A VARIABLE or NET. */
    private static final class Signal {
        static final int VARIABLE = 0;
        static final int WIRE = 1;
        static final int WAND = 2;
        static final int WOR = 3;
        static final int NO_PORT = 0;
        static final int INWARD = 1;
        static final int OUTWARD = 2;

        int width;
        boolean signed;
        int low;
        int words;
        int wordLow;
        int sort;
        int port;
        boolean linked;
        int cell;
        int scope;
        int place;
        int bytes;
        /** The first of its drivers, -1: none; the others hang on it. */
        int driver;

        void begin(int someSort, boolean isSigned) {
            sort = someSort;
            signed = isSigned;
            width = 1;
            low = 0;
            words = 0;
            port = NO_PORT;
        }

        void become(Signal other) {
            width = other.width;
            signed = other.signed;
            low = other.low;
            words = other.words;
            wordLow = other.wordLow;
            sort = other.sort;
            port = other.port;
            linked = false;
            driver = -1;
        }

        int shape() {
            return signed ? width | Code.SIGNED : width;
        }
    }

    /**
     * EXPRS, LEFTS and STATEMENTS as rows.
     *
     * <p>An EXPR is a run of nodes, operands before their operators, so it is worked out and given
     * its CONTEXT by plain loops however long it is.
     */
    private static final class Code {
        /** A shape is a WIDTH, and SIGNED if it is; OPEN marks what a CONTEXT goes into. */
        static final int WIDTH = 127;
        static final int SIGNED = 128;
        static final int OPEN = 256;
        static final int SHAPE = 255;
        // Operators between operands bear the kind of their TOKEN, those before one this more.
        static final int UNARY = 256;
        static final int CONSTANT = 512;
        static final int WHOLE = 513;
        static final int PART = 514;
        static final int NOW = 515;
        static final int BIT = 516;
        static final int WORD = 517;
        static final int CONSTANT_BIT = 518;
        static final int FIRST = 519;
        static final int JOIN = 520;
        static final int COPIES = 521;
        static final int RENAMED = 522;
        static final int UNKNOWN = 523;
        static final int FOREIGN = 524;
        /** A LEFT that is not there. */
        static final int NOWHERE = 525;
        // Levels of operators between operands that are worked out alike.
        static final int JOINING = 2;
        static final int COMPARING = 6;
        static final int ORDERING = 7;
        static final int SHIFTING = 8;
        // What stands in the row of STATEMENTS.
        static final int PAY = 0;
        static final int SET = 1;
        static final int HOLD = 2;
        static final int PUT = 3;
        static final int AFTER = 4;
        static final int DELAY = 5;
        static final int AWAIT = 6;
        static final int STAR = 7;
        static final int UNTIL = 8;
        static final int JUMP = 9;
        static final int UNLESS = 10;
        static final int PICK = 11;
        static final int COUNT = 12;
        static final int NEXT = 13;
        static final int SHOW = 14;
        static final int FINISH = 15;
        static final int OVER = 16;
        /** A TOKEN makes one node at most, a LEFT or a NUMBER has two TOKENS, forever four lines. */
        private static final int MOST_NODES = MOST_TOKENS;
        private static final int MOST_LEFTS = MOST_TOKENS / 2;
        private static final int MOST_CONSTANTS = MOST_TOKENS / 2;
        private static final int MOST_LINES = MOST_TOKENS * 4;
        /** repeat ( E ) ; has five TOKENS. */
        static final int MOST_COUNTERS = MOST_TOKENS / 5;

        final int[] op = new int[MOST_NODES];
        /** What is read; of an operator between operands its level. */
        final int[] arg = new int[MOST_NODES];
        /** Where the operands of a node begin. */
        final int[] first = new int[MOST_NODES];
        /** The shape that it has by itself, and that of its CONTEXT. */
        final int[] own = new int[MOST_NODES];
        final int[] given = new int[MOST_NODES];
        int nodes;
        final long[] ones = new long[MOST_CONSTANTS];
        final long[] unknown = new long[MOST_CONSTANTS];
        int constants;
        final int[] leftSignal = new int[MOST_LEFTS];
        final int[] leftWay = new int[MOST_LEFTS];
        final int[] leftIndex = new int[MOST_LEFTS];
        final int[] leftWidth = new int[MOST_LEFTS];
        final int[] driverNext = new int[MOST_LEFTS];
        final long[] driverOnes = new long[MOST_LEFTS];
        final long[] driverUnknown = new long[MOST_LEFTS];
        int lefts;
        final int[] line = new int[MOST_LINES];
        int lines;
        int counters;

        void clear() {
            nodes = 0;
            constants = 0;
            lefts = 0;
            lines = 0;
            counters = 0;
        }

        int root() {
            return Math.max(0, nodes - 1);
        }

        void node(int kind, int what, int from, int shape) {
            if (nodes < MOST_NODES) {
                op[nodes] = kind;
                arg[nodes] = what;
                first[nodes] = from;
                own[nodes] = shape;
                given[nodes] = shape;
                nodes++;
            }
        }

        /** CONSTANT, or CONSTANT_BIT, whose index is the EXPR that begins there. */
        void constant(int kind, long someOnes, long someUnknown, int from, int shape) {
            if (constants < MOST_CONSTANTS) {
                ones[constants] = someOnes;
                unknown[constants] = someUnknown;
                node(kind, constants, from, shape);
                constants++;
            }
        }

        /** Takes the last EXPR away again. */
        void drop() {
            int from = nodes == 0 ? 0 : first[nodes - 1];
            for (int k = from; k < nodes; k++) {
                if (op[k] == CONSTANT || op[k] == CONSTANT_BIT) {
                    constants--;
                }
            }
            nodes = from;
        }

        void left(int signal, int way, int index, int width) {
            if (lefts < MOST_LEFTS) {
                leftSignal[lefts] = signal;
                leftWay[lefts] = way;
                leftIndex[lefts] = index;
                leftWidth[lefts] = width;
                lefts++;
            }
        }

        void emit(int what) {
            if (lines < MOST_LINES) {
                line[lines] = what;
                lines++;
            }
        }

        /** How tightly an operator between operands binds, 1 to 10; 0: it is none. */
        static int level(int kind) {
            switch (kind) {
                case Tokens.EITHER:
                    return 1;
                case Tokens.BOTH:
                    return JOINING;
                case '|':
                    return 3;
                case '^':
                case Tokens.XNOR:
                    return 4;
                case '&':
                    return 5;
                case Tokens.EQUAL:
                case Tokens.UNEQUAL:
                case Tokens.SAME:
                case Tokens.NOT_SAME:
                    return COMPARING;
                case '<':
                case '>':
                case Tokens.AT_MOST:
                case Tokens.AT_LEAST:
                    return ORDERING;
                case Tokens.UP:
                case Tokens.DOWN:
                case Tokens.UP_SIGNED:
                case Tokens.DOWN_SIGNED:
                    return SHIFTING;
                case '+':
                case '-':
                    return 9;
                case '*':
                case '/':
                case '%':
                    return 10;
                default:
                    return 0;
            }
        }

        /** The shape of two operands that are brought to the same one. */
        static int wider(int one, int other) {
            return Math.max(one & WIDTH, other & WIDTH) | one & other & SIGNED;
        }

        /** Gives an EXPR its CONTEXT: operators stand behind their operands, so from the end on. */
        void shape(int root, int shape) {
            given[root] = shape & SHAPE;
            for (int k = root; k >= first[root]; k--) {
                if (first[k] < k) {
                    spread(k);
                }
            }
        }

        private void spread(int k) {
            int last = k - 1;
            int open = (own[k] & OPEN) != 0 ? given[k] : 0;
            given[last] = open != 0 ? open : own[last] & SHAPE;
            int before = first[last] - 1;
            if (op[k] == '?') {
                given[before] = open;
                int condition = first[before] - 1;
                given[condition] = own[condition] & SHAPE;
            } else if (op[k] == JOIN) {
                given[before] = own[before] & SHAPE;
            } else if (op[k] < UNARY) {
                given[before] = open != 0 ? open : own[before] & SHAPE;
                if (arg[k] == COMPARING || arg[k] == ORDERING) {
                    int both = wider(own[before], own[last]);
                    given[before] = both;
                    given[last] = both;
                } else if (arg[k] == SHIFTING) {
                    given[last] = own[last] & SHAPE;
                }
            }
        }
    }

    /** A flat circuit, with the values of its VARIABLES and NETS. */
    private static final class Circuit {
        final byte[] text = new byte[MOST_INPUT];
        final Code code = new Code();
        final Signal[] signals = new Signal[MOST_SIGNALS];
        int signalCount;
        final long[] ones = new long[MOST_SIGNALS + MOST_WORDS];
        final long[] unknown = new long[MOST_SIGNALS + MOST_WORDS];
        int cells;
        int words;
        /** Scope 0 is the TOP, the others are the instances. */
        final int[] scopeAbove = new int[MOST_INSTANCES + 1];
        final int[] scopePlace = new int[MOST_INSTANCES + 1];
        final int[] scopeBytes = new int[MOST_INSTANCES + 1];
        int scopes;
        final int[] assignRoot = new int[MOST_TASKS];
        final int[] assignFrom = new int[MOST_TASKS];
        final int[] assignTo = new int[MOST_TASKS];
        int assigns;
        final int[] processStart = new int[MOST_TASKS];
        int processes;
        /** ASSIGNS and processes as the EVENTS that they are at first. */
        final int[] order = new int[MOST_TASKS];
        /** For each VARIABLE or NET the set of ASSIGNS that read it. */
        final long[] readers = new long[MOST_SIGNALS * SET_LONGS];

        Circuit() {
            for (int k = 0; k < MOST_SIGNALS; k++) {
                signals[k] = new Signal();
            }
        }

        void clear(byte[] bytes, int length) {
            System.arraycopy(bytes, 0, text, 0, length);
            code.clear();
            signalCount = 0;
            cells = 0;
            words = 0;
            scopes = 0;
            assigns = 0;
            processes = 0;
        }

        boolean isFull() {
            return assigns + processes >= MOST_TASKS;
        }

        int addScope(int above, int place, int bytes) {
            if (scopes > MOST_INSTANCES) {
                return 0;
            }
            scopeAbove[scopes] = above;
            scopePlace[scopes] = place;
            scopeBytes[scopes] = bytes;
            scopes++;
            return scopes - 1;
        }

        void addSignal(Signal mould, int scope, int place, int bytes) {
            int size = Math.max(1, mould.words);
            if (signalCount >= MOST_SIGNALS || words + mould.words > MOST_WORDS) {
                return;
            }
            Signal signal = signals[signalCount];
            signal.become(mould);
            signal.cell = cells;
            signal.scope = scope;
            signal.place = place;
            signal.bytes = bytes;
            Arrays.fill(readers, signalCount * SET_LONGS, (signalCount + 1) * SET_LONGS, 0);
            long all = mask(signal.width);
            for (int k = cells; k < cells + size; k++) {
                ones[k] = signal.sort == Signal.VARIABLE ? all : 0;
                unknown[k] = all;
            }
            cells += size;
            words += mould.words;
            signalCount++;
        }

        void addProcess(int start) {
            if (!isFull()) {
                order[assigns + processes] = processes;
                processStart[processes] = start;
                processes++;
            }
        }

        void addAssign(int root, int from) {
            if (isFull()) {
                return;
            }
            order[assigns + processes] = Agenda.ASSIGNS + assigns;
            assignRoot[assigns] = root;
            assignFrom[assigns] = from;
            assignTo[assigns] = code.lefts;
            for (int k = from; k < code.lefts; k++) {
                Signal net = signals[code.leftSignal[k]];
                code.driverOnes[k] = 0;
                code.driverUnknown[k] = -1;
                code.driverNext[k] = net.driver;
                net.driver = k;
            }
            for (int k = code.first[root]; k <= root; k++) {
                int read = signalRead(k);
                if (read >= 0) {
                    readers[read * SET_LONGS + assigns / 64] |= 1L << assigns % 64;
                }
            }
            assigns++;
        }

        /** Which VARIABLE or NET a node reads, -1: none. */
        int signalRead(int node) {
            switch (code.op[node]) {
                case Code.WHOLE:
                case Code.BIT:
                case Code.WORD:
                    return code.arg[node];
                case Code.PART:
                    return code.arg[node] / 64;
                default:
                    return -1;
            }
        }

        int nameLength(int v) {
            int bytes = signals[v].bytes;
            int scope = signals[v].scope;
            for (int k = 0; k < MOST_DEEP && scope > 0; k++) {
                bytes += scopeBytes[scope] + 1;
                scope = scopeAbove[scope];
            }
            return bytes;
        }

        int nameByte(int v, int i) {
            int start = nameLength(v) - signals[v].bytes;
            if (i >= start) {
                return text[signals[v].place + i - start];
            }
            int scope = signals[v].scope;
            for (int k = 0; k < MOST_DEEP && i < start; k++) {
                if (i == start - 1) {
                    return '.';
                }
                start -= scopeBytes[scope] + 1;
                if (i >= start) {
                    return text[scopePlace[scope] + i - start];
                }
                scope = scopeAbove[scope];
            }
            return '.';
        }
    }

    /** Works out EXPRS: a bit is 1 or x where ones has it, x or z where unknown has it. */
    private static final class Worth {
        /** DEPTH is at most 40, and no level of it leaves more than a dozen operands open. */
        private static final int MOST_OPEN = 1024;
        /** No number that a bit or a word can have. */
        private static final long NOWHERE = Long.MIN_VALUE;

        private final long[] ones = new long[MOST_OPEN];
        private final long[] unknown = new long[MOST_OPEN];
        private int top;
        private Circuit circuit;
        private Code code;
        long now;
        /** What the node at hand is worth, before it is cut to its WIDTH. */
        private long o;
        private long u;

        void work(Circuit of, int root) {
            circuit = of;
            code = of.code;
            top = 0;
            for (int k = code.first[root]; k <= root && top < MOST_OPEN; k++) {
                int op = code.op[k];
                if (op >= Code.FIRST) {
                    join(k, op);
                } else if (op >= Code.BIT) {
                    pick(k, op);
                } else if (op >= Code.CONSTANT) {
                    read(k, op);
                } else if (op >= Code.UNARY) {
                    unary(k, op - Code.UNARY);
                } else if (op == '?') {
                    choose();
                } else {
                    binary(k, op);
                }
                int have = ((code.own[k] & Code.OPEN) != 0 ? code.given[k] : code.own[k]) & Code.WIDTH;
                int want = code.given[k] & Code.WIDTH;
                if (want > have && (code.given[k] & Code.SIGNED) != 0) {
                    o = o << 64 - have >> 64 - have;
                    u = u << 64 - have >> 64 - have;
                    have = want;
                }
                ones[top] = o & -1L >>> 64 - have;
                unknown[top] = u & -1L >>> 64 - have;
                top++;
            }
        }

        long ones() {
            return ones[0];
        }

        long unknown() {
            return unknown[0];
        }

        boolean isTrue() {
            return (ones[0] & ~unknown[0]) != 0;
        }

        /** The number of a shape that was worked out, as far as that; NOWHERE with x or z. */
        long index(int at, int shape) {
            int up = 64 - (shape & Code.WIDTH);
            if (unknown[at] != 0) {
                return NOWHERE;
            }
            if ((shape & Code.SIGNED) != 0) {
                return ones[at] << up >> up;
            }
            return ones[at] < 0 ? NOWHERE : ones[at];
        }

        private void read(int k, int op) {
            int arg = code.arg[k];
            int cell;
            switch (op) {
                case Code.CONSTANT:
                    o = code.ones[arg];
                    u = code.unknown[arg];
                    break;
                case Code.WHOLE:
                    cell = circuit.signals[arg].cell;
                    o = circuit.ones[cell];
                    u = circuit.unknown[cell];
                    break;
                case Code.PART:
                    cell = circuit.signals[arg / 64].cell;
                    o = circuit.ones[cell] >>> arg % 64;
                    u = circuit.unknown[cell] >>> arg % 64;
                    break;
                default:
                    o = now;
                    u = 0;
                    break;
            }
        }

        /** A bit or a word by its index; x where there is none. */
        private void pick(int k, int op) {
            int arg = code.arg[k];
            top--;
            long index = index(top, code.given[k - 1]);
            o = -1;
            u = -1;
            if (op == Code.CONSTANT_BIT) {
                int bit = within(index, 0, 32);
                if (bit >= 0) {
                    o = code.ones[arg] >>> bit;
                    u = 0;
                }
                return;
            }
            Signal signal = circuit.signals[arg];
            boolean word = op == Code.WORD;
            int at = word ? within(index, signal.wordLow, signal.words)
                    : within(index, signal.low, signal.width);
            if (at >= 0) {
                int cell = word ? signal.cell + at : signal.cell;
                int low = word ? 0 : at;
                o = circuit.ones[cell] >>> low;
                u = circuit.unknown[cell] >>> low;
            }
        }

        private void join(int k, int op) {
            int width = code.given[k - 1] & Code.WIDTH;
            if (op == Code.JOIN) {
                top -= 2;
                o = ones[top] << width | ones[top + 1];
                u = unknown[top] << width | unknown[top + 1];
                return;
            }
            top--;
            o = ones[top];
            u = unknown[top];
            if (op == Code.COPIES) {
                for (int copy = 1; copy < code.arg[k]; copy++) {
                    o = o << width | ones[top];
                    u = u << width | unknown[top];
                }
            }
        }

        /** 1 TRUE, 0 FALSE, else 2. */
        private int truth(int at) {
            if ((ones[at] & ~unknown[at]) != 0) {
                return 1;
            }
            return unknown[at] == 0 ? 0 : 2;
        }

        /** 0, 1, or x if it is 2; its opposite if it is turned. */
        private void putBit(int bit, boolean turned) {
            o = bit == 2 || bit == 1 != turned ? 1 : 0;
            u = bit == 2 ? 1 : 0;
        }

        private void unary(int k, int sign) {
            top--;
            o = ones[top];
            u = unknown[top];
            switch (sign) {
                case '+':
                    break;
                case '-':
                    o = u == 0 ? -o : -1;
                    u = u == 0 ? 0 : -1;
                    break;
                case '~':
                    o = ~o | u;
                    break;
                case '!':
                    putBit(truth(top), true);
                    break;
                case '&':
                case Tokens.NAND:
                    boolean zero = (~o & ~u & -1L >>> 64 - (code.given[k - 1] & Code.WIDTH)) != 0;
                    putBit(zero ? 0 : u != 0 ? 2 : 1, sign != '&');
                    break;
                case '|':
                case Tokens.NOR:
                    putBit(truth(top), sign != '|');
                    break;
                default:
                    putBit(u != 0 ? 2 : Long.bitCount(o) & 1, sign != '^');
                    break;
            }
        }

        private void choose() {
            top -= 3;
            int truth = truth(top);
            if (truth < 2) {
                int taken = top + 2 - truth;
                o = ones[taken];
                u = unknown[taken];
                return;
            }
            long same = ~(ones[top + 1] ^ ones[top + 2]) & ~unknown[top + 1] & ~unknown[top + 2];
            o = ones[top + 1] & same | ~same;
            u = ~same;
        }

        private void binary(int k, int op) {
            top -= 2;
            switch (code.arg[k]) {
                case 1:
                case Code.JOINING:
                    decide(op == Tokens.BOTH ? 0 : 1);
                    break;
                case Code.COMPARING:
                    compare(op);
                    break;
                case Code.ORDERING:
                    order(op, code.given[k - 1]);
                    break;
                case Code.SHIFTING:
                    shift(op, code.given[k]);
                    break;
                case 3:
                case 4:
                case 5:
                    mix(op);
                    break;
                default:
                    if (op == '/' || op == '%') {
                        divide(op, code.given[k]);
                    } else {
                        reckon(op);
                    }
                    break;
            }
        }

        /** && and ||: one of them that is so decides. */
        private void decide(int deciding) {
            boolean one = (ones[top] & ~unknown[top]) != 0;
            boolean other = (ones[top + 1] & ~unknown[top + 1]) != 0;
            boolean oneZero = (ones[top] | unknown[top]) == 0;
            boolean otherZero = (ones[top + 1] | unknown[top + 1]) == 0;
            if (deciding == 1) {
                o = oneZero && otherZero ? 0 : 1;
                u = one || other || o == 0 ? 0 : 1;
            } else {
                o = oneZero || otherZero ? 0 : 1;
                u = one && other || o == 0 ? 0 : 1;
            }
        }

        /** & | ^ ~^. */
        private void mix(int op) {
            long one = ones[top] & ~unknown[top];
            long other = ones[top + 1] & ~unknown[top + 1];
            long some = ones[top] | unknown[top];
            long others = ones[top + 1] | unknown[top + 1];
            u = unknown[top] | unknown[top + 1];
            switch (op) {
                case '&':
                    o = some & others;
                    u &= o;
                    break;
                case '|':
                    o = some | others;
                    u = o & ~(one | other);
                    break;
                case '^':
                    o = one ^ other | u;
                    break;
                default:
                    o = ~(one ^ other) | u;
                    break;
            }
        }

        private void compare(int op) {
            long some = unknown[top] | unknown[top + 1];
            long differing = ones[top] ^ ones[top + 1];
            boolean equal = differing == 0 && unknown[top] == unknown[top + 1];
            u = 0;
            if (op == Tokens.SAME || op == Tokens.NOT_SAME) {
                o = equal == (op == Tokens.SAME) ? 1 : 0;
            } else if ((differing & ~some) == 0 && some != 0) {
                o = 1;
                u = 1;
            } else {
                o = equal == (op == Tokens.EQUAL) ? 1 : 0;
            }
        }

        private void order(int op, int shape) {
            // Without sign the order is that of the numbers with the highest bit turned.
            int up = 64 - (shape & Code.WIDTH);
            long turn = (shape & Code.SIGNED) != 0 ? 0 : Long.MIN_VALUE;
            int order = Long.compare(ones[top] << up ^ turn, ones[top + 1] << up ^ turn);
            u = (unknown[top] | unknown[top + 1]) != 0 ? 1 : 0;
            boolean so;
            switch (op) {
                case '<':
                    so = order < 0;
                    break;
                case '>':
                    so = order > 0;
                    break;
                case Tokens.AT_MOST:
                    so = order <= 0;
                    break;
                default:
                    so = order >= 0;
                    break;
            }
            o = so || u != 0 ? 1 : 0;
        }

        private void shift(int op, int shape) {
            int width = shape & Code.WIDTH;
            long by = ones[top + 1];
            boolean far = by < 0 || by >= width;
            o = ones[top];
            u = unknown[top];
            if (unknown[top + 1] != 0) {
                o = -1;
                u = -1;
            } else if (op == Tokens.DOWN_SIGNED && (shape & Code.SIGNED) != 0) {
                long places = far ? 63 : by;
                o = o << 64 - width >> 64 - width >> places;
                u = u << 64 - width >> 64 - width >> places;
            } else if (far) {
                o = 0;
                u = 0;
            } else if (op == Tokens.UP || op == Tokens.UP_SIGNED) {
                o <<= by;
                u <<= by;
            } else {
                o >>>= by;
                u >>>= by;
            }
        }

        /** + - *. */
        private void reckon(int op) {
            u = (unknown[top] | unknown[top + 1]) != 0 ? -1 : 0;
            if (op == '+') {
                o = ones[top] + ones[top + 1];
            } else if (op == '-') {
                o = ones[top] - ones[top + 1];
            } else {
                o = ones[top] * ones[top + 1];
            }
            o |= u;
        }

        private void divide(int op, int shape) {
            int up = 64 - (shape & Code.WIDTH);
            boolean signed = (shape & Code.SIGNED) != 0;
            long one = signed ? ones[top] << up >> up : ones[top];
            long other = signed ? ones[top + 1] << up >> up : ones[top + 1];
            if ((unknown[top] | unknown[top + 1]) != 0 || other == 0) {
                o = -1;
                u = -1;
                return;
            }
            long least = Long.MIN_VALUE;
            long quotient;
            if (signed) {
                quotient = one / other;
            } else if (other < 0) {
                quotient = one + least < other + least ? 0 : 1;
            } else {
                // Half of it can be divided with sign; what is left over may hold one more.
                quotient = (one >>> 1) / other << 1;
                quotient += one - quotient * other + least < other + least ? 0 : 1;
            }
            o = op == '/' ? quotient : one - quotient * other;
            u = 0;
        }
    }

    /** Knows the NAMES and makes code; while it is off, a TEXT is only read for its form. */
    private static final class Maker {
        // What a LEFT is to be.
        static final int VARIABLES = 1;
        static final int NETS = 2;
        // What a NAME is.
        private static final int PARAMETER = 0;
        private static final int SIGNAL = 1;
        private static final int INSTANCE = 2;
        /** Of a parameter that is linked, but by an empty link. */
        private static final int LEFT_OUT = 3;
        /** A parameter or localparam has five TOKENS. */
        private static final int MOST_SYMBOLS = MOST_TOKENS / 5 + MOST_SIGNALS + MOST_INSTANCES;

        private final Tokens tokens;
        private final Faults faults;
        private final Worth worth;
        private Circuit circuit;
        private Code code;
        int scope;
        boolean on;
        /** Whether the last CONSTANT is one, and what stands for it in another one if not. */
        boolean sound;
        int flaw;
        int leftFrom;
        int leftWidth;
        private final int[] head = new int[Tokens.MOST_NAMES];
        private final int[] symbolName = new int[MOST_SYMBOLS];
        /** ~ of the scope for a parameter that is linked and not known yet. */
        private final int[] symbolScope = new int[MOST_SYMBOLS];
        private final int[] symbolSort = new int[MOST_SYMBOLS];
        private final int[] symbolWorth = new int[MOST_SYMBOLS];
        /** The symbol of the same NAME that was known before. */
        private final int[] symbolBelow = new int[MOST_SYMBOLS];
        int symbols;

        Maker(Tokens someTokens, Faults someFaults, Worth someWorth) {
            tokens = someTokens;
            faults = someFaults;
            worth = someWorth;
        }

        void open(Circuit made) {
            circuit = made;
            code = made.code;
            scope = 0;
            symbols = 0;
            Arrays.fill(head, 0, tokens.names, -1);
        }

        void turn(boolean toOn) {
            on = toOn;
            faults.on = toOn;
        }

        /** What a NAME is in a scope, -1: it is not known. */
        int find(int token, int where) {
            int symbol = head[tokens.info[token]];
            while (symbol >= 0 && symbolScope[symbol] != where) {
                symbol = symbolBelow[symbol];
            }
            return symbol;
        }

        private void add(int token, int where, int sort, int worthOf) {
            if (symbols < MOST_SYMBOLS) {
                int name = tokens.info[token];
                symbolName[symbols] = name;
                symbolScope[symbols] = where;
                symbolSort[symbols] = sort;
                symbolWorth[symbols] = worthOf;
                symbolBelow[symbols] = head[name];
                head[name] = symbols;
                symbols++;
            }
        }

        void forgetFrom(int mark) {
            for (int k = symbols - 1; k >= mark; k--) {
                head[symbolName[k]] = symbolBelow[k];
            }
            symbols = mark;
        }

        /** A parameter is linked, with a value or by an empty link. */
        void give(int token, int inside, boolean empty, long value) {
            add(token, ~inside, empty ? LEFT_OUT : PARAMETER, (int) value);
        }

        /** A linked parameter is known from now on; answers whether it has got its value so. */
        boolean isGiven(int token) {
            int symbol = on ? find(token, ~scope) : -1;
            if (symbol < 0 || symbolSort[symbol] == LEFT_OUT) {
                return false;
            }
            symbolScope[symbol] = scope;
            return true;
        }

        void parameter(int token, long value) {
            if (!on) {
                return;
            }
            if (find(token, scope) >= 0) {
                faults.note(2, token);
            }
            add(token, scope, PARAMETER, (int) value);
        }

        void nameInstance(int token) {
            if (find(token, scope) >= 0) {
                faults.note(2, token);
            }
            add(token, scope, INSTANCE, 0);
        }

        void declare(int token, Signal mould) {
            if (!on) {
                return;
            }
            if (find(token, scope) >= 0) {
                faults.note(2, token);
            }
            if (circuit.signalCount >= MOST_SIGNALS || circuit.words + mould.words > MOST_WORDS) {
                faults.note(5, token);
            }
            faults.settle();
            add(token, scope, SIGNAL, circuit.signalCount);
            circuit.addSignal(mould, scope, tokens.place[token],
                    tokens.nameLength[tokens.info[token]]);
        }

        /** The port of an instance that a link names and that is not linked yet, -1: none. */
        int port(int token, int inside) {
            int symbol = find(token, inside);
            if (symbol >= 0 && symbolSort[symbol] == SIGNAL) {
                Signal port = circuit.signals[symbolWorth[symbol]];
                if (!port.linked) {
                    port.linked = true;
                    return symbolWorth[symbol];
                }
            }
            faults.note(2, token);
            return -1;
        }

        void checkRoom(int token) {
            if (circuit.isFull()) {
                faults.note(5, token);
            }
        }

        /** The CONSTANT that the last EXPR is, its code being taken away. */
        long constant(int first, boolean isParameter) {
            if (!on) {
                return 0;
            }
            int root = code.root();
            lookAt(root);
            long value = 0;
            if (flaw == Code.FOREIGN) {
                faults.note(3, first);
            } else if (sound) {
                int own = code.own[root];
                code.shape(root, Math.max(own & Code.WIDTH, 32) | own & Code.SIGNED);
                worth.work(circuit, root);
                value = asSigned(worth.ones(), code.given[root] & Code.WIDTH);
                if (worth.unknown() != 0 || !isParameter && value != (int) value) {
                    faults.note(4, first);
                    sound = false;
                }
            }
            code.drop();
            return value;
        }

        /** Whether an EXPR can be worked out as a CONSTANT. */
        private void lookAt(int root) {
            flaw = Code.UNKNOWN;
            sound = !faults.hard;
            for (int k = code.first[root]; k <= root; k++) {
                int op = code.op[k];
                if (op == Code.FOREIGN || op == Code.NOW || circuit.signalRead(k) >= 0) {
                    flaw = Code.FOREIGN;
                    sound = false;
                } else if ((code.own[k] & Code.WIDTH) > 64) {
                    sound = false;
                }
            }
        }

        /** Of two CONSTANTS that belong together both must be sound. */
        void heedOther(boolean otherSound, int otherFlaw) {
            sound = sound && otherSound;
            flaw = Math.max(flaw, otherFlaw);
        }

        void checkCopies(long copies, int first) {
            if (on && sound && copies < 1) {
                faults.note(4, first);
            }
        }

        void number(int token) {
            if (on) {
                int number = tokens.info[token];
                code.constant(Code.CONSTANT, tokens.numberOnes[number],
                        tokens.numberUnknown[number], code.nodes, tokens.numberShape[number]);
            }
        }

        void now() {
            if (on) {
                code.node(Code.NOW, 0, code.nodes, 64);
            }
        }

        void readWhole(int token) {
            if (!on) {
                return;
            }
            int symbol = find(token, scope);
            if (symbol < 0) {
                faults.note(2, token);
                code.node(Code.UNKNOWN, 0, code.nodes, 1);
            } else if (symbolSort[symbol] == PARAMETER) {
                code.constant(Code.CONSTANT, symbolWorth[symbol] & 0xffffffffL, 0, code.nodes,
                        32 | Code.SIGNED);
            } else if (isWhole(symbol)) {
                readSignal(symbolWorth[symbol]);
            } else {
                faults.note(3, token);
                code.node(Code.FOREIGN, 0, code.nodes, 1);
            }
        }

        void readSignal(int v) {
            if (on) {
                code.node(Code.WHOLE, v, code.nodes, circuit.signals[v].shape());
            }
        }

        /** Whether a NAME is a VARIABLE or NET without words. */
        private boolean isWhole(int symbol) {
            return symbolSort[symbol] == SIGNAL && circuit.signals[symbolWorth[symbol]].words == 0;
        }

        /** NAME[E]: E is the last EXPR. */
        void readBit(int token) {
            if (!on) {
                return;
            }
            int from = code.first[code.root()];
            int symbol = find(token, scope);
            if (symbol < 0) {
                faults.note(2, token);
                code.node(Code.UNKNOWN, 0, from, 1);
            } else if (symbolSort[symbol] == PARAMETER) {
                code.constant(Code.CONSTANT_BIT, symbolWorth[symbol] & 0xffffffffL, 0, from, 1);
            } else if (isWhole(symbol)) {
                code.node(Code.BIT, symbolWorth[symbol], from, 1);
            } else if (symbolSort[symbol] == SIGNAL) {
                int v = symbolWorth[symbol];
                code.node(Code.WORD, v, from, circuit.signals[v].width);
            } else {
                faults.note(3, token);
                code.node(Code.FOREIGN, 0, from, 1);
            }
        }

        void readPart(int token, long high, long low, int first) {
            if (!on) {
                return;
            }
            int symbol = find(token, scope);
            boolean parameter = symbol >= 0 && symbolSort[symbol] == PARAMETER;
            if (symbol < 0) {
                faults.note(2, token);
                code.node(Code.UNKNOWN, 0, code.nodes, 1);
                return;
            }
            if (!parameter && !isWhole(symbol)) {
                faults.note(3, token);
                code.node(Code.FOREIGN, 0, code.nodes, 1);
                return;
            }
            if (!sound) {
                code.node(parameter ? flaw : Code.FOREIGN, 0, code.nodes, 1);
                return;
            }
            int what = symbolWorth[symbol];
            int lowest = parameter ? 0 : circuit.signals[what].low;
            int width = parameter ? 32 : circuit.signals[what].width;
            int part = partAt(lowest, width, high, low);
            if (part < 0) {
                faults.note(4, first);
                code.node(parameter ? Code.UNKNOWN : Code.FOREIGN, 0, code.nodes, 1);
            } else if (parameter) {
                int bits = (int) (high - low + 1);
                code.constant(Code.CONSTANT, what >>> part & mask(bits), 0, code.nodes, bits);
            } else {
                code.node(Code.PART, what * 64 + part, code.nodes, (int) (high - low + 1));
            }
        }

        /** Where a part begins, -1 if it is not there. */
        private static int partAt(int lowest, int width, long high, long low) {
            boolean there = low >= lowest && high >= low && high - lowest < width;
            return there ? (int) (low - lowest) : -1;
        }

        void binary(int op) {
            if (!on) {
                return;
            }
            int right = code.root();
            int left = Math.max(0, code.first[right] - 1);
            int level = Code.level(op);
            int shape = 1;
            if (level == Code.SHIFTING) {
                shape = code.own[left] & Code.SHAPE | Code.OPEN;
            } else if (level > Code.SHIFTING || level > Code.JOINING && level < Code.COMPARING) {
                shape = Code.wider(code.own[left], code.own[right]) | Code.OPEN;
            }
            code.node(op, level, code.first[left], shape);
        }

        void unary(int sign) {
            if (on) {
                int root = code.root();
                boolean open = sign == '+' || sign == '-' || sign == '~';
                code.node(Code.UNARY + sign, 0, code.first[root],
                        open ? code.own[root] & Code.SHAPE | Code.OPEN : 1);
            }
        }

        void choose() {
            if (on) {
                int last = code.root();
                int middle = Math.max(0, code.first[last] - 1);
                int condition = Math.max(0, code.first[middle] - 1);
                code.node('?', 0, code.first[condition],
                        Code.wider(code.own[middle], code.own[last]) | Code.OPEN);
            }
        }

        /** What stands alone in { }, or first. */
        void first() {
            if (on) {
                int root = code.root();
                code.node(Code.FIRST, 0, code.first[root], code.own[root] & Code.WIDTH);
            }
        }

        void join() {
            if (on) {
                int right = code.root();
                int left = Math.max(0, code.first[right] - 1);
                int width = (code.own[left] & Code.WIDTH) + (code.own[right] & Code.WIDTH);
                code.node(Code.JOIN, 0, code.first[left], Math.min(width, 65));
            }
        }

        void copies(long copies) {
            if (on) {
                int root = code.root();
                long width = copies * (code.own[root] & Code.WIDTH);
                code.node(Code.COPIES, (int) Math.max(1, Math.min(64, copies)), code.first[root],
                        (int) Math.max(1, Math.min(width, 65)));
            }
        }

        void checkBraces(int token) {
            if (on && (code.own[code.root()] & Code.WIDTH) > 64) {
                faults.note(Faults.WIDE, token);
            }
        }

        void checkLeftBraces(int token, int widthBefore) {
            if (leftWidth - widthBefore > 64) {
                faults.note(Faults.WIDE, token);
            }
        }

        void rename(boolean signed) {
            if (on) {
                int root = code.root();
                int width = code.own[root] & Code.WIDTH;
                code.node(Code.RENAMED, 0, code.first[root], signed ? width | Code.SIGNED : width);
            }
        }

        void beginLeft() {
            leftFrom = code.lefts;
            leftWidth = 0;
        }

        private void left(int signal, int way, int index, int width) {
            code.left(signal, way, index, width);
            leftWidth += width;
        }

        /** The VARIABLE or NET that a LEFT names, -1 if it is not of the right kind. */
        private int target(int token, int use, boolean indexed) {
            int symbol = find(token, scope);
            if (symbol < 0) {
                faults.note(2, token);
                return -1;
            }
            if (symbolSort[symbol] == SIGNAL) {
                Signal signal = circuit.signals[symbolWorth[symbol]];
                boolean variable = signal.sort == Signal.VARIABLE;
                if (variable == (use == VARIABLES) && (indexed || signal.words == 0)) {
                    return symbolWorth[symbol];
                }
            }
            faults.note(3, token);
            return -1;
        }

        void leftWhole(int token, int use) {
            int v = on ? target(token, use, false) : -1;
            if (v >= 0) {
                left(v, Code.WHOLE, 0, circuit.signals[v].width);
            }
        }

        void leftPort(int v) {
            if (v >= 0) {
                left(v, Code.WHOLE, 0, circuit.signals[v].width);
            }
        }

        /** NAME[E], in a STATEMENT. */
        void leftBit(int token, int root) {
            int v = on ? target(token, VARIABLES, true) : -1;
            if (v >= 0) {
                Signal signal = circuit.signals[v];
                boolean memory = signal.words > 0;
                left(v, memory ? Code.WORD : Code.BIT, root, memory ? signal.width : 1);
            }
        }

        /** NAME[E], in an ASSIGN: a bit that is not there is driven by nothing. */
        void drivenBit(int token, long index) {
            int v = on ? target(token, NETS, true) : -1;
            if (v >= 0 && sound) {
                int bit = within(index, circuit.signals[v].low, circuit.signals[v].width);
                left(v, bit < 0 ? Code.NOWHERE : Code.PART, Math.max(0, bit), 1);
            }
        }

        void leftPart(int token, int use, long high, long low, int first) {
            int v = on ? target(token, use, false) : -1;
            if (v < 0 || !sound) {
                return;
            }
            int part = partAt(circuit.signals[v].low, circuit.signals[v].width, high, low);
            if (part < 0) {
                faults.note(4, first);
            } else {
                left(v, Code.PART, part, (int) (high - low + 1));
            }
        }

        /** The last EXPR as it is by itself. */
        int plain() {
            int root = code.root();
            if (on) {
                code.shape(root, code.own[root]);
            }
            return root;
        }

        /** The last EXPR as it is assigned to the last LEFT. */
        int assigned() {
            int root = code.root();
            if (on && !faults.isFound()) {
                int own = code.own[root];
                code.shape(root, Math.max(own & Code.WIDTH, leftWidth) | own & Code.SIGNED);
            }
            return root;
        }

        void assign() {
            int root = assigned();
            if (on && !faults.isFound()) {
                circuit.addAssign(root, leftFrom);
            }
        }

        /** An EVENT to wait for: its bit is -1 for any, -2 for one that is not there. */
        void await(int edge, int token, boolean indexed, long index) {
            if (!on) {
                return;
            }
            int symbol = find(token, scope);
            if (symbol < 0) {
                faults.note(2, token);
            } else if (!isWhole(symbol)) {
                faults.note(3, token);
            } else {
                Signal signal = circuit.signals[symbolWorth[symbol]];
                int bit = edge == 0 ? -1 : 0;
                if (indexed) {
                    bit = within(index, signal.low, signal.width);
                    bit = bit < 0 ? -2 : bit;
                }
                emit(edge);
                emit(symbolWorth[symbol]);
                emit(bit);
            }
        }

        void emit(int what) {
            if (on) {
                code.emit(what);
            }
        }

        int here() {
            return code.lines;
        }

        int nodes() {
            return code.nodes;
        }

        int lefts() {
            return code.lefts;
        }

        void patch(int at, int what) {
            if (on && at < code.lines) {
                code.line[at] = what;
            }
        }

        int line(int at) {
            return on && at < code.lines ? code.line[at] : 0;
        }

        int counter() {
            if (on && code.counters < Code.MOST_COUNTERS - 1) {
                code.counters++;
            }
            return code.counters;
        }

        int shapeOf(int root) {
            return on ? code.own[root] & Code.SHAPE : 0;
        }

        void giveShape(int root, int shape) {
            if (on) {
                code.shape(root, shape);
            }
        }
    }

    /** Reads EXPRS, LEFTS and STATEMENTS, and has the maker make code of them. */
    private static final class Reader {
        /** DEPTH is at most 40, and each level of it has at most ten operators waiting. */
        private static final int MOST_WAITING = 1024;

        private final Tokens tokens;
        private final Faults faults;
        private final Maker maker;
        private final int[] waiting = new int[MOST_WAITING];
        private int waitingCount;
        int at;
        private int depth;
        /** The ends of the last RANGE or part. */
        long high;
        long low;

        Reader(Tokens someTokens, Faults someFaults, Maker someMaker) {
            tokens = someTokens;
            faults = someFaults;
            maker = someMaker;
        }

        void begin() {
            at = 0;
            depth = 0;
            waitingCount = 0;
        }

        int kind() {
            return tokens.kind[at];
        }

        boolean sees(int kind) {
            return tokens.kind[at] == kind;
        }

        /** Goes on by a TOKEN of a kind; any other one is wrong there, and one that is too deep. */
        int take(int kind) {
            if (tokens.kind[at] != kind || depth > MOST_DEPTH || at >= tokens.size - 1) {
                faults.refuse(1, tokens.place[at]);
            }
            at++;
            return at - 1;
        }

        boolean again(int kind) {
            if (!sees(kind)) {
                return false;
            }
            take(kind);
            return true;
        }

        int open(int kind) {
            int token = take(kind);
            depth++;
            return token;
        }

        void close(int kind) {
            take(kind);
            depth--;
        }

        /** The TOKEN behind the brackets that open at a TOKEN. */
        int behind(int token) {
            int open = 0;
            for (int k = token; k < tokens.size - 1; k++) {
                int kind = tokens.kind[k];
                if (kind == '(' || kind == '[' || kind == '{') {
                    open++;
                } else if (kind == ')' || kind == ']' || kind == '}') {
                    open--;
                    if (open == 0) {
                        return k + 1;
                    }
                }
            }
            return token;
        }

        /** EXPR. */
        private void choice() {
            int base = waitingCount;
            operand();
            for (int k = 0; k < MOST_INPUT && Code.level(tokens.kind[at]) > 0; k++) {
                int sign = tokens.kind[at];
                take(sign);
                settle(base, Code.level(sign));
                await(sign);
                operand();
            }
            settle(base, 0);
            if (sees('?')) {
                open('?');
                choice();
                take(':');
                choice();
                depth--;
                maker.choose();
            }
        }

        private void await(int sign) {
            if (waitingCount < MOST_WAITING) {
                waiting[waitingCount] = sign;
                waitingCount++;
            }
        }

        /** Operators that bind as tightly as the next one, or more, have their operands. */
        private void settle(int base, int level) {
            while (waitingCount > base && Code.level(waiting[waitingCount - 1]) >= level) {
                waitingCount--;
                maker.binary(waiting[waitingCount]);
            }
        }

        private static boolean isUnary(int kind) {
            switch (kind) {
                case '+':
                case '-':
                case '!':
                case '~':
                case '&':
                case '|':
                case '^':
                case Tokens.NAND:
                case Tokens.NOR:
                case Tokens.XNOR:
                    return true;
                default:
                    return false;
            }
        }

        private void operand() {
            int base = waitingCount;
            for (int k = 0; k <= MOST_DEPTH + 1 && isUnary(tokens.kind[at]); k++) {
                await(tokens.kind[at]);
                open(tokens.kind[at]);
            }
            primary();
            while (waitingCount > base) {
                waitingCount--;
                depth--;
                maker.unary(waiting[waitingCount]);
            }
        }

        private void primary() {
            int kind = tokens.kind[at];
            switch (kind) {
                case Tokens.NUMBER:
                    maker.number(take(kind));
                    break;
                case Tokens.NAME:
                    named();
                    break;
                case '{':
                    braces();
                    break;
                case Tokens.TIME:
                    take(kind);
                    maker.now();
                    break;
                case Tokens.AS_SIGNED:
                case Tokens.AS_UNSIGNED:
                    take(kind);
                    inBrackets();
                    maker.rename(kind == Tokens.AS_SIGNED);
                    break;
                default:
                    inBrackets();
                    break;
            }
        }

        private void inBrackets() {
            open('(');
            choice();
            close(')');
        }

        private void braces() {
            int token = open('{');
            int first = at;
            choice();
            if (sees('{')) {
                tokens.info[token] = 1;
                long copies = maker.constant(first, false);
                maker.checkCopies(copies, first);
                open('{');
                choice();
                joined();
                close('}');
                maker.copies(copies);
            } else {
                joined();
            }
            close('}');
            maker.checkBraces(token);
        }

        private void joined() {
            maker.first();
            for (int k = 0; k < MOST_INPUT && again(','); k++) {
                choice();
                maker.join();
            }
        }

        /** NAME in an EXPR, with an index or a part or none. */
        private void named() {
            int name = take(Tokens.NAME);
            if (!sees('[')) {
                maker.readWhole(name);
                return;
            }
            open('[');
            int first = at;
            choice();
            if (sees(':')) {
                ends(first);
                maker.readPart(name, high, low, first);
            } else {
                maker.readBit(name);
            }
            close(']');
        }

        /** The first end of a RANGE or part has been read; the ends go to high and low. */
        private void ends(int first) {
            long end = maker.constant(first, false);
            boolean sound = maker.sound;
            int flaw = maker.flaw;
            take(':');
            int second = at;
            choice();
            low = maker.constant(second, false);
            high = end;
            maker.heedOther(sound, flaw);
        }

        private void left(int use) {
            if (!sees('{')) {
                leftName(use);
                return;
            }
            int widthBefore = maker.leftWidth;
            int token = open('{');
            left(use);
            for (int k = 0; k < MOST_INPUT && again(','); k++) {
                left(use);
            }
            close('}');
            maker.checkLeftBraces(token, widthBefore);
        }

        private void leftName(int use) {
            int name = take(Tokens.NAME);
            if (!sees('[')) {
                maker.leftWhole(name, use);
                return;
            }
            open('[');
            int first = at;
            choice();
            if (sees(':')) {
                ends(first);
                maker.leftPart(name, use, high, low, first);
            } else if (use == Maker.NETS) {
                maker.drivenBit(name, maker.constant(first, false));
            } else {
                maker.leftBit(name, maker.plain());
            }
            close(']');
        }

        /** The EXPR of a link to an output, which must have the form of a LEFT. */
        private void outward() {
            if (!isLeft()) {
                faults.note(3, at);
                choice();
            } else if (sees(Tokens.NAME)) {
                leftName(Maker.NETS);
            } else {
                int widthBefore = maker.leftWidth;
                int token = open('{');
                outward();
                for (int k = 0; k < MOST_INPUT && again(','); k++) {
                    outward();
                }
                close('}');
                maker.checkLeftBraces(token, widthBefore);
            }
        }

        private boolean isLeft() {
            int behind = at;
            if (sees(Tokens.NAME)) {
                behind = tokens.kind[at + 1] == '[' ? behind(at + 1) : at + 1;
            } else if (sees('{') && tokens.info[at] == 0) {
                behind = behind(at);
            }
            int kind = tokens.kind[behind];
            return behind > at && (kind == ',' || kind == '}' || kind == ')');
        }

        /** STATEMENT; inner is 1 if it stands in another one, else 0. */
        private void statement(int inner) {
            depth += inner;
            maker.emit(Code.PAY);
            int kind = tokens.kind[at];
            switch (kind) {
                case ';':
                    take(';');
                    break;
                case Tokens.BEGIN:
                    block();
                    break;
                case '#':
                    delay();
                    statement(1);
                    break;
                case '@':
                    awaiting();
                    break;
                case Tokens.WAIT:
                    take(kind);
                    inBrackets();
                    maker.emit(Code.UNTIL);
                    maker.emit(maker.plain());
                    statement(1);
                    break;
                case Tokens.IF:
                    branches();
                    break;
                case Tokens.CASE:
                case Tokens.CASEZ:
                    cases(kind);
                    break;
                case Tokens.DISPLAY:
                case Tokens.WRITE:
                    show(kind);
                    break;
                case Tokens.FINISH:
                    take(kind);
                    take(';');
                    maker.emit(Code.FINISH);
                    break;
                case Tokens.NAME:
                case '{':
                    assignment();
                    break;
                default:
                    loop(kind);
                    break;
            }
            depth -= inner;
        }

        private void block() {
            open(Tokens.BEGIN);
            for (int k = 0; k < MOST_INPUT && !sees(Tokens.END_BLOCK); k++) {
                statement(1);
            }
            close(Tokens.END_BLOCK);
        }

        private void delay() {
            take('#');
            primary();
            maker.emit(Code.DELAY);
            maker.emit(maker.plain());
        }

        private void awaiting() {
            take('@');
            if (!sees('*')) {
                events();
                statement(1);
                return;
            }
            take('*');
            maker.emit(Code.STAR);
            maker.emit(maker.nodes());
            int hole = hole();
            statement(1);
            maker.patch(hole, maker.nodes());
        }

        /** A line that is filled in later. */
        private int hole() {
            int line = maker.here();
            maker.emit(0);
            return line;
        }

        private void events() {
            open('(');
            maker.emit(Code.AWAIT);
            int hole = hole();
            int events = 0;
            for (int k = 0; k < MOST_INPUT; k++) {
                int edge = again(Tokens.POSEDGE) ? 1 : again(Tokens.NEGEDGE) ? 2 : 0;
                int name = take(Tokens.NAME);
                boolean indexed = sees('[');
                long index = 0;
                if (indexed) {
                    open('[');
                    int first = at;
                    choice();
                    index = maker.constant(first, false);
                    close(']');
                }
                maker.await(edge, name, indexed, index);
                events++;
                if (!again(Tokens.OR)) {
                    break;
                }
            }
            close(')');
            maker.patch(hole, events);
        }

        /** Goes on with the next STATEMENT if the last EXPR is TRUE, else where the hole will say. */
        private int unless() {
            maker.emit(Code.UNLESS);
            maker.emit(maker.plain());
            return hole();
        }

        private void jump(int line) {
            maker.emit(Code.JUMP);
            maker.emit(line);
        }

        private void branches() {
            take(Tokens.IF);
            inBrackets();
            int other = unless();
            statement(1);
            if (again(Tokens.ELSE)) {
                maker.emit(Code.JUMP);
                int behind = hole();
                maker.patch(other, maker.here());
                statement(1);
                maker.patch(behind, maker.here());
            } else {
                maker.patch(other, maker.here());
            }
        }

        /**
         * PICK, 1 for casez, the EXPR, the line behind; then for each choice: the next choice's line
         * or 0, that of its STATEMENT, how many EXPRS (0: default), these. The EXPRS get their
         * shape when all are known.
         */
        private void cases(int kind) {
            open(kind);
            inBrackets();
            int root = maker.plain();
            maker.emit(Code.PICK);
            maker.emit(kind == Tokens.CASEZ ? 1 : 0);
            maker.emit(root);
            int behind = hole();
            int first = maker.here();
            int shape = maker.shapeOf(root);
            for (int k = 0; k < MOST_INPUT; k++) {
                int next = hole();
                int start = hole();
                shape = labels(shape);
                maker.patch(start, maker.here());
                statement(1);
                // The jumps behind the STATEMENTS are found again through one another.
                jump(maker.line(behind));
                maker.patch(behind, maker.here() - 1);
                if (sees(Tokens.ENDCASE)) {
                    break;
                }
                maker.patch(next, maker.here());
            }
            close(Tokens.ENDCASE);
            maker.giveShape(root, shape);
            shapeLabels(first, shape);
            landJumps(behind);
        }

        /** The EXPRS of a choice, or default; answers the shape of all so far. */
        private int labels(int shapeBefore) {
            int hole = hole();
            int shape = shapeBefore;
            int labels = 0;
            if (!again(Tokens.DEFAULT)) {
                for (int k = 0; k < MOST_INPUT; k++) {
                    choice();
                    int root = maker.plain();
                    maker.emit(root);
                    shape = Code.wider(shape, maker.shapeOf(root));
                    labels++;
                    if (!again(',')) {
                        break;
                    }
                }
            }
            take(':');
            maker.patch(hole, labels);
            return shape;
        }

        private void shapeLabels(int first, int shape) {
            int choice = first;
            for (int k = 0; k < MOST_INPUT && maker.on; k++) {
                for (int label = 0; label < maker.line(choice + 2); label++) {
                    maker.giveShape(maker.line(choice + 3 + label), shape);
                }
                choice = maker.line(choice);
                if (choice == 0) {
                    break;
                }
            }
        }

        private void landJumps(int behind) {
            int jump = maker.line(behind);
            for (int k = 0; k < MOST_INPUT && jump > 0; k++) {
                int before = maker.line(jump);
                maker.patch(jump, maker.here());
                jump = before;
            }
            maker.patch(behind, maker.here());
        }

        private void loop(int kind) {
            switch (kind) {
                case Tokens.FOR:
                    countingLoop();
                    break;
                case Tokens.WHILE:
                    take(kind);
                    int test = maker.here();
                    inBrackets();
                    body(test, unless());
                    break;
                case Tokens.REPEAT:
                    take(kind);
                    inBrackets();
                    int counter = maker.counter();
                    maker.emit(Code.COUNT);
                    maker.emit(counter);
                    maker.emit(maker.plain());
                    int next = maker.here();
                    maker.emit(Code.NEXT);
                    maker.emit(counter);
                    body(next, hole());
                    break;
                default:
                    take(Tokens.FOREVER);
                    body(maker.here(), -1);
                    break;
            }
        }

        /** The STATEMENT of a loop, which costs 1 more each time, and the way back. */
        private void body(int back, int exit) {
            maker.emit(Code.PAY);
            statement(1);
            jump(back);
            if (exit >= 0) {
                maker.patch(exit, maker.here());
            }
        }

        private void countingLoop() {
            take(Tokens.FOR);
            open('(');
            int begin = loopAssignment();
            emitTo(Code.SET, begin, maker.leftFrom, maker.lefts());
            take(';');
            int test = maker.here();
            choice();
            int exit = unless();
            take(';');
            int step = loopAssignment();
            int from = maker.leftFrom;
            int to = maker.lefts();
            close(')');
            maker.emit(Code.PAY);
            statement(1);
            emitTo(Code.SET, step, from, to);
            jump(test);
            maker.patch(exit, maker.here());
        }

        /** NAME = EXPR of a for; answers the EXPR. */
        private int loopAssignment() {
            maker.beginLeft();
            int name = take(Tokens.NAME);
            take('=');
            maker.leftWhole(name, Maker.VARIABLES);
            choice();
            return maker.assigned();
        }

        private void assignment() {
            maker.beginLeft();
            left(Maker.VARIABLES);
            boolean later = again(Tokens.AT_MOST);
            if (!later) {
                take('=');
            }
            boolean waits = !later && (sees('#') || sees('@'));
            int delay = -1;
            int hole = -1;
            if (waits) {
                maker.emit(Code.HOLD);
                hole = hole();
            }
            if (sees('@')) {
                if (later) {
                    faults.note(3, at);
                }
                take('@');
                events();
            } else if (waits) {
                delay();
            } else if (again('#')) {
                primary();
                delay = maker.plain();
            }
            choice();
            take(';');
            int root = maker.assigned();
            if (waits) {
                maker.patch(hole, root);
                emitTo(Code.PUT, 0, maker.leftFrom, maker.lefts());
            } else if (later) {
                emitTo(Code.AFTER, root, maker.leftFrom, maker.lefts());
                maker.emit(delay);
            } else {
                emitTo(Code.SET, root, maker.leftFrom, maker.lefts());
            }
        }

        private void emitTo(int what, int root, int from, int to) {
            maker.emit(what);
            maker.emit(root);
            maker.emit(from);
            maker.emit(to);
        }

        private void show(int kind) {
            take(kind);
            maker.emit(Code.SHOW);
            maker.emit(kind == Tokens.DISPLAY ? 1 : 0);
            int hole = hole();
            int arguments = 0;
            if (sees('(')) {
                open('(');
                for (int k = 0; k < MOST_INPUT; k++) {
                    argument();
                    arguments++;
                    if (!again(',')) {
                        break;
                    }
                }
                close(')');
            }
            take(';');
            maker.patch(hole, arguments);
        }

        /** A STRING's place is told by a number below 0. */
        private void argument() {
            if (sees(Tokens.STRING)) {
                maker.emit(~tokens.place[take(Tokens.STRING)]);
            } else {
                choice();
                maker.emit(maker.plain());
            }
        }
    }

    /** Reads MODULES and their ITEMS, and puts their instances together to one circuit. */
    private static final class Builder {
        /** 'module', a NAME, ; and 'endmodule' have eighteen bytes. */
        private static final int MOST_MODULES = MOST_INPUT / 18 + 1;
        private static final int MOST_MEMORY = 4096;

        private final Tokens tokens;
        private final Faults faults;
        private final Maker maker;
        private final Reader reader;
        private Circuit circuit;
        /** What the next NAME is declared as. */
        private final Signal mould = new Signal();
        private final int[] moduleStart = new int[MOST_MODULES];
        private final int[] moduleEnd = new int[MOST_MODULES];
        private int modules;
        /** 1 for NAMES that are instantiated as MODULES. */
        private final int[] instantiated = new int[Tokens.MOST_NAMES];
        /** Whether a MODULE has begun and not ended. */
        private boolean inside;
        private boolean done;
        /** For each instance that is open: where it is gone on behind it, and with what NAMES. */
        private final int[] backTo = new int[MOST_DEEP + 1];
        private final int[] scopeOutside = new int[MOST_DEEP + 1];
        private final int[] symbolsOutside = new int[MOST_DEEP + 1];
        private int deep;
        private int instances;
        private int tokensDone;

        Builder(Tokens someTokens, Faults someFaults, Maker someMaker, Reader someReader) {
            tokens = someTokens;
            faults = someFaults;
            maker = someMaker;
            reader = someReader;
        }

        /** Cuts a TEXT, whose form is looked at then, ITEM by ITEM. */
        void open(Circuit made, int length) {
            circuit = made;
            faults.forget();
            tokens.cut(made.text, length);
            Arrays.fill(instantiated, 0, tokens.names, 0);
            maker.open(made);
            maker.turn(false);
            reader.begin();
            modules = 0;
            inside = false;
            done = false;
        }

        boolean isOpen() {
            return !done;
        }

        /** Makes the circuit of the TEXT whose form is right then, ITEM by ITEM again. */
        void flatten() {
            int top = top();
            maker.turn(true);
            instances = 0;
            deep = 0;
            tokensDone = moduleEnd[top] - moduleStart[top];
            maker.scope = circuit.addScope(0, 0, 0);
            reader.at = moduleStart[top];
            inside = false;
            done = false;
        }

        private int top() {
            int found = 0;
            int tops = 0;
            for (int k = 0; k < modules; k++) {
                int name = tokens.info[moduleStart[k] + 1];
                if (moduleNamed(name) != k) {
                    faults.refuse(2, tokens.place[moduleStart[k] + 1]);
                }
                if (instantiated[name] == 0) {
                    found = k;
                    tops++;
                }
            }
            if (tops != 1) {
                faults.refuse(6, 0);
            }
            return found;
        }

        private int moduleNamed(int name) {
            for (int k = 0; k < modules; k++) {
                if (tokens.info[moduleStart[k] + 1] == name) {
                    return k;
                }
            }
            return -1;
        }

        /** The next ITEM, or the beginning or end of a MODULE. */
        void item() {
            int kind = reader.kind();
            if (!inside) {
                noteStart();
                head();
                inside = true;
                if (maker.on && deep > 0) {
                    links();
                }
                return;
            }
            switch (kind) {
                case Tokens.ENDMODULE:
                    leave();
                    break;
                case Tokens.WIRE:
                case Tokens.WAND:
                case Tokens.WOR:
                case Tokens.REG:
                    declaration(kind);
                    break;
                case Tokens.INTEGER:
                    integers();
                    break;
                case Tokens.LOCALPARAM:
                    reader.take(kind);
                    parameter();
                    reader.take(';');
                    break;
                case Tokens.ASSIGN:
                    maker.checkRoom(reader.take(kind));
                    maker.beginLeft();
                    reader.left(Maker.NETS);
                    reader.take('=');
                    reader.choice();
                    reader.take(';');
                    maker.assign();
                    faults.settle();
                    break;
                case Tokens.INITIAL:
                case Tokens.ALWAYS:
                    maker.checkRoom(reader.take(kind));
                    int start = maker.here();
                    reader.statement(0);
                    faults.settle();
                    finishProcess(start, kind == Tokens.ALWAYS);
                    break;
                default:
                    if (maker.on) {
                        instance();
                    } else {
                        instanceForm();
                    }
                    break;
            }
        }

        private void noteStart() {
            if (!maker.on && modules < MOST_MODULES) {
                moduleStart[modules] = reader.at;
            }
        }

        /** A MODULE up to its first ITEM. */
        private void head() {
            reader.take(Tokens.MODULE);
            reader.take(Tokens.NAME);
            if (reader.again('#')) {
                reader.open('(');
                for (int k = 0; k < MOST_INPUT; k++) {
                    reader.take(Tokens.PARAMETER);
                    parameter();
                    if (!reader.again(',')) {
                        break;
                    }
                }
                reader.close(')');
            }
            if (reader.sees('(')) {
                reader.open('(');
                for (int k = 0; k < MOST_INPUT; k++) {
                    port();
                    if (!reader.again(',')) {
                        break;
                    }
                }
                reader.close(')');
            }
            reader.take(';');
        }

        /** NAME = EXPR; the EXPR of a parameter that is linked is passed over. */
        private void parameter() {
            int name = reader.take(Tokens.NAME);
            reader.take('=');
            boolean making = maker.on;
            maker.turn(making && !maker.isGiven(name));
            int first = reader.at;
            reader.choice();
            maker.parameter(name, maker.constant(first, true));
            maker.turn(making);
            faults.settle();
        }

        private void port() {
            boolean inward = reader.again(Tokens.INPUT);
            if (!inward) {
                reader.take(Tokens.OUTPUT);
            }
            boolean variable = !reader.again(Tokens.WIRE) && reader.again(Tokens.REG);
            mould.begin(variable ? Signal.VARIABLE : Signal.WIRE, reader.again(Tokens.SIGNED));
            mould.port = inward ? Signal.INWARD : Signal.OUTWARD;
            if (reader.sees('[')) {
                reader.open('[');
                int first = reader.at;
                reader.choice();
                reader.ends(first);
                reader.close(']');
                takeWidth(first);
            }
            int name = reader.take(Tokens.NAME);
            if (variable && inward) {
                faults.note(3, name);
            }
            maker.declare(name, mould);
        }

        private void takeWidth(int first) {
            long width = reader.high - reader.low + 1;
            if (maker.sound && (width < 1 || width > 64)) {
                faults.note(4, first);
            }
            faults.settle();
            mould.width = (int) width;
            mould.low = (int) reader.low;
        }

        private void declaration(int kind) {
            reader.take(kind);
            mould.begin(kind == Tokens.REG ? Signal.VARIABLE : kind - Tokens.WIRE + Signal.WIRE,
                    reader.again(Tokens.SIGNED));
            if (reader.sees('[')) {
                takeWidth(range());
            }
            for (int k = 0; k < MOST_INPUT; k++) {
                int name = reader.take(Tokens.NAME);
                mould.words = 0;
                if (reader.sees('[')) {
                    if (mould.sort != Signal.VARIABLE) {
                        faults.note(3, name);
                    }
                    takeWords(range());
                }
                maker.declare(name, mould);
                if (!reader.again(',')) {
                    break;
                }
            }
            reader.take(';');
        }

        /** RANGE; answers its first EXPR's TOKEN. */
        private int range() {
            reader.open('[');
            int first = reader.at;
            reader.choice();
            reader.ends(first);
            reader.close(']');
            return first;
        }

        private void takeWords(int first) {
            long words = Math.abs(reader.high - reader.low) + 1;
            if (maker.sound && words > MOST_MEMORY) {
                faults.note(4, first);
            } else if (maker.sound) {
                mould.words = (int) words;
                mould.wordLow = (int) Math.min(reader.high, reader.low);
            }
        }

        private void integers() {
            reader.take(Tokens.INTEGER);
            mould.begin(Signal.VARIABLE, true);
            mould.width = 32;
            for (int k = 0; k < MOST_INPUT; k++) {
                maker.declare(reader.take(Tokens.NAME), mould);
                if (!reader.again(',')) {
                    break;
                }
            }
            reader.take(';');
        }

        private void finishProcess(int start, boolean always) {
            maker.emit(always ? Code.JUMP : Code.OVER);
            if (always) {
                maker.emit(start);
            }
            if (maker.on) {
                circuit.addProcess(start);
            }
        }

        private void leave() {
            if (!maker.on) {
                reader.take(Tokens.ENDMODULE);
                inside = false;
                done = reader.sees(Tokens.END);
                if (modules < MOST_MODULES) {
                    moduleEnd[modules] = reader.at;
                    modules++;
                }
            } else if (deep == 0) {
                maker.turn(false);
                done = true;
            } else {
                deep--;
                reader.at = backTo[deep];
                maker.scope = scopeOutside[deep];
                maker.forgetFrom(symbolsOutside[deep]);
            }
        }

        /** An instance up to its own NAME; its ports and links come with its MODULE's beginning. */
        private void instance() {
            int of = reader.take(Tokens.NAME);
            int name = reader.sees('#') ? reader.behind(reader.at + 1) : reader.at;
            int module = moduleNamed(tokens.info[of]);
            nameInstance(of, name, module);
            int scope = circuit.addScope(maker.scope, tokens.place[name],
                    tokens.nameLength[tokens.info[name]]);
            backTo[deep] = name + 1;
            scopeOutside[deep] = maker.scope;
            symbolsOutside[deep] = maker.symbols;
            deep++;
            if (reader.again('#')) {
                reader.open('(');
                for (int k = 0; k < MOST_INPUT; k++) {
                    linkParameter(module, scope);
                    if (!reader.again(',')) {
                        break;
                    }
                }
                reader.close(')');
            }
            maker.scope = scope;
            reader.at = moduleStart[module];
            inside = false;
        }

        /** An instance while only the form is looked at. */
        private void instanceForm() {
            instantiated[tokens.info[reader.take(Tokens.NAME)]] = 1;
            if (reader.again('#')) {
                reader.open('(');
                linkForms();
                reader.close(')');
            }
            reader.take(Tokens.NAME);
            reader.open('(');
            if (!reader.sees(')')) {
                linkForms();
            }
            reader.close(')');
            reader.take(';');
        }

        private void linkForms() {
            for (int k = 0; k < MOST_INPUT; k++) {
                reader.take('.');
                reader.take(Tokens.NAME);
                reader.open('(');
                if (!reader.sees(')')) {
                    reader.choice();
                }
                reader.close(')');
                if (!reader.again(',')) {
                    break;
                }
            }
        }

        private void nameInstance(int of, int name, int module) {
            if (module < 0) {
                faults.note(2, of);
            } else {
                tokensDone += moduleEnd[module] - moduleStart[module];
            }
            maker.nameInstance(name);
            instances++;
            if (instances > MOST_INSTANCES || deep >= MOST_DEEP || tokensDone > MOST_TOKENS) {
                faults.note(5, name);
            }
            faults.settle();
        }

        private void linkParameter(int module, int scope) {
            reader.take('.');
            int name = reader.take(Tokens.NAME);
            if (!hasParameter(module, tokens.info[name]) || maker.find(name, ~scope) >= 0) {
                faults.note(2, name);
            }
            reader.open('(');
            int first = reader.at;
            boolean empty = reader.sees(')');
            long value = 0;
            if (!empty) {
                reader.choice();
                value = maker.constant(first, true);
            }
            reader.close(')');
            faults.settle();
            maker.give(name, scope, empty, value);
        }

        private boolean hasParameter(int module, int name) {
            for (int k = moduleStart[module]; k < moduleEnd[module] && tokens.kind[k] != ';'; k++) {
                if (tokens.kind[k] == Tokens.PARAMETER && tokens.info[k + 1] == name) {
                    return true;
                }
            }
            return false;
        }

        /** The links of the instance whose ports are known now; they are worked out outside. */
        private void links() {
            int items = reader.at;
            int scope = maker.scope;
            reader.at = backTo[deep - 1];
            maker.scope = scopeOutside[deep - 1];
            reader.open('(');
            for (int k = 0; k < MOST_INPUT && !reader.sees(')'); k++) {
                int dot = reader.take('.');
                int port = maker.port(reader.take(Tokens.NAME), scope);
                reader.open('(');
                if (!reader.sees(')')) {
                    maker.checkRoom(dot);
                    maker.beginLeft();
                    if (port >= 0 && circuit.signals[port].port == Signal.OUTWARD) {
                        reader.outward();
                        maker.readSignal(port);
                    } else {
                        maker.leftPort(port);
                        reader.choice();
                    }
                    maker.assign();
                }
                reader.close(')');
                reader.again(',');
                faults.settle();
            }
            reader.close(')');
            reader.take(';');
            backTo[deep - 1] = reader.at;
            maker.scope = scope;
            reader.at = items;
        }
    }

    /**
     * TIME and the REGIONS.
     *
     * <p>EVENTS are numbers: processes from 0 on, then ASSIGNS, then those that set something. Each
     * is in one row at most, so the rows are chains through one array.
     */
    private static final class Agenda {
        static final int ACTIVE = 0;
        static final int INACTIVE = 1;
        static final int LATER = 2;
        /** Places of EVENTS that set something and are done. */
        private static final int FREE = 3;
        static final int ASSIGNS = MOST_TASKS;
        static final int SETTINGS = 2 * MOST_TASKS;
        private static final int MOST_SETTINGS = 4000;
        private static final int MOST_EVENTS = SETTINGS + MOST_SETTINGS;
        private static final int MOST_FUTURE = MOST_TASKS + MOST_SETTINGS;
        private static final int LAST = -1;
        private static final int ABSENT = -2;

        long now;
        private final int[] next = new int[MOST_EVENTS];
        private final int[] head = new int[4];
        private final int[] tail = new int[4];
        final int[] size = new int[4];
        /** FUTURE is a heap: by TIME, then in the order in which they came. */
        private final long[] due = new long[MOST_FUTURE];
        private final long[] rank = new long[MOST_FUTURE];
        private final int[] event = new int[MOST_FUTURE];
        int future;
        private long ranks;
        /** How many places of EVENTS that set something have been used. */
        private int settings;
        final int[] signal = new int[MOST_SETTINGS];
        final int[] spot = new int[MOST_SETTINGS];
        final int[] width = new int[MOST_SETTINGS];
        final long[] ones = new long[MOST_SETTINGS];
        final long[] unknown = new long[MOST_SETTINGS];

        void open(Circuit circuit) {
            now = 0;
            future = 0;
            ranks = 0;
            settings = 0;
            Arrays.fill(size, 0);
            Arrays.fill(next, 0, SETTINGS, ABSENT);
            for (int k = 0; k < circuit.assigns + circuit.processes; k++) {
                add(ACTIVE, circuit.order[k]);
            }
        }

        boolean isEmpty() {
            return size[ACTIVE] + size[INACTIVE] + size[LATER] + future == 0;
        }

        boolean holds(int what) {
            return next[what] != ABSENT;
        }

        void add(int row, int what) {
            if (size[row] == 0) {
                head[row] = what;
            } else {
                next[tail[row]] = what;
            }
            tail[row] = what;
            next[what] = LAST;
            size[row]++;
        }

        /** The first of a row that is not empty. */
        private int first(int row) {
            int what = head[row];
            head[row] = next[what];
            next[what] = ABSENT;
            size[row]--;
            return what;
        }

        /** The next EVENT of ACTIVE, after REGIONS have been moved if it is empty; -1: none. */
        int take() {
            for (int k = 0; k < 3 && size[ACTIVE] == 0; k++) {
                if (size[INACTIVE] > 0) {
                    makeActive(INACTIVE);
                } else if (size[LATER] > 0) {
                    makeActive(LATER);
                } else {
                    advance();
                }
            }
            return size[ACTIVE] == 0 ? -1 : first(ACTIVE);
        }

        private void makeActive(int row) {
            head[ACTIVE] = head[row];
            tail[ACTIVE] = tail[row];
            size[ACTIVE] = size[row];
            size[row] = 0;
        }

        private void advance() {
            if (future == 0) {
                return;
            }
            now = due[0];
            for (int k = 0; k < MOST_FUTURE && future > 0 && due[0] == now; k++) {
                int what = event[0];
                future--;
                sink(due[future], rank[future], event[future]);
                add(what < SETTINGS ? ACTIVE : LATER, what);
            }
        }

        void delay(int what, long by) {
            if (future >= MOST_FUTURE) {
                return;
            }
            long time = now + by;
            int at = future;
            future++;
            // It came last, so it goes up only past those with a later TIME.
            while (at > 0 && due[(at - 1) / 2] > time) {
                move((at - 1) / 2, at);
                at = (at - 1) / 2;
            }
            due[at] = time;
            rank[at] = ranks;
            event[at] = what;
            ranks++;
        }

        private void move(int from, int to) {
            due[to] = due[from];
            rank[to] = rank[from];
            event[to] = event[from];
        }

        private boolean isBefore(int one, long time, long place) {
            return due[one] < time || due[one] == time && rank[one] < place;
        }

        /** Puts an EVENT into the heap, whose first place is free. */
        private void sink(long time, long place, int what) {
            int at = 0;
            for (int k = 0; k < 32; k++) {
                int child = 2 * at + 1;
                if (child + 1 < future && isBefore(child + 1, due[child], rank[child])) {
                    child++;
                }
                if (child >= future || !isBefore(child, time, place)) {
                    break;
                }
                move(child, at);
                at = child;
            }
            due[at] = time;
            rank[at] = place;
            event[at] = what;
        }

        /** A new EVENT that is to set something, in no row yet; -1: there are too many. */
        int plan(int what, int where, int bits, long someOnes, long someUnknown) {
            if (size[FREE] == 0 && settings == MOST_SETTINGS) {
                return -1;
            }
            int made = SETTINGS + settings;
            if (size[FREE] > 0) {
                made = first(FREE);
            } else {
                settings++;
            }
            int slot = made - SETTINGS;
            signal[slot] = what;
            spot[slot] = where;
            width[slot] = bits;
            ones[slot] = someOnes;
            unknown[slot] = someUnknown;
            return made;
        }

        /** The place of an EVENT that sets something may be used again. */
        void free(int what) {
            add(FREE, what);
        }
    }

    /** LOG, and how values are written into it. */
    private static final class Book {
        private static final String LETTERS = "dbhct";

        final byte[] bytes = new byte[MOST_LOG];
        int size;
        private final byte[] string = new byte[MOST_INPUT];
        private final int[] digits = new int[24];
        private final Worth worth;
        private Circuit circuit;

        Book(Worth someWorth) {
            worth = someWorth;
        }

        void open(Circuit shown) {
            circuit = shown;
            size = 0;
        }

        private void put(int c) {
            if (size < MOST_LOG) {
                bytes[size] = (byte) c;
                size++;
            }
        }

        /** $display or $write at a line. */
        void show(int line) {
            int[] code = circuit.code.line;
            int argument = line + 3;
            int end = argument + code[line + 2];
            while (argument < end) {
                int what = code[argument];
                argument++;
                if (what >= 0) {
                    write(what, 'd', false);
                    continue;
                }
                int length = read(~what);
                for (int at = 0; at < length; at++) {
                    int letter = conversion(at, length);
                    if (letter == 0) {
                        put(string[at]);
                        continue;
                    }
                    boolean bare = string[at + 1] == '0';
                    at += bare ? 2 : 1;
                    if (letter == '%') {
                        put('%');
                    } else if (argument == end || code[argument] < 0) {
                        put('x');
                    } else {
                        write(code[argument], letter, bare);
                        argument++;
                    }
                }
            }
            if (code[line + 1] == 1) {
                put(10);
            }
        }

        /** Takes the STRING at a place of the TEXT apart; answers how many bytes it has. */
        private int read(int place) {
            int length = 0;
            for (int at = place + 1; at < MOST_INPUT - 1 && circuit.text[at] != '"'; at++) {
                if (circuit.text[at] == '\\') {
                    at++;
                    string[length] = circuit.text[at] == 'n' ? 10 : circuit.text[at];
                } else {
                    string[length] = circuit.text[at];
                }
                length++;
            }
            return length;
        }

        /** The letter of the conversion that begins there, % for %%, 0 if none does. */
        private int conversion(int at, int length) {
            if (string[at] != '%' || at + 1 == length) {
                return 0;
            }
            if (string[at + 1] == '%') {
                return '%';
            }
            int place = string[at + 1] == '0' ? at + 2 : at + 1;
            boolean known = place < length && LETTERS.indexOf((char) (string[place] & 255)) >= 0;
            return known ? string[place] : 0;
        }

        private void write(int root, int letter, boolean bare) {
            worth.work(circuit, root);
            long ones = worth.ones();
            long unknown = worth.unknown();
            int shape = circuit.code.own[root] & Code.SHAPE;
            switch (letter) {
                case 'b':
                    groups(ones, unknown, shape & Code.WIDTH, bare ? -1 : 1);
                    break;
                case 'h':
                    groups(ones, unknown, shape & Code.WIDTH, bare ? -4 : 4);
                    break;
                case 'c':
                    put((int) (ones & ~unknown & 255));
                    break;
                case 't':
                    decimal(ones, unknown, shape, bare ? 0 : 20);
                    break;
                default:
                    decimal(ones, unknown, shape, bare ? 0 : places(shape));
                    break;
            }
        }

        /** Bits by ones or fours, the highest first; below 0: without zeros at the beginning. */
        private void groups(long ones, long unknown, int width, int by) {
            int step = Math.abs(by);
            boolean silent = by < 0;
            for (int low = (width - 1) / step * step; low >= 0; low -= step) {
                long all = mask(Math.min(step, width - low));
                long group = ones >>> low & all;
                int c = group < 10 ? (int) ('0' + group) : (int) ('a' + group - 10);
                if ((unknown >>> low & all) != 0) {
                    c = unclear(group, unknown >>> low & all, all);
                }
                silent = silent && c == '0' && low > 0;
                if (!silent) {
                    put(c);
                }
            }
        }

        /** The letter for bits with x or z among them. */
        private static int unclear(long ones, long unknown, long all) {
            if (unknown == all && (ones == all || ones == 0)) {
                return ones == 0 ? 'z' : 'x';
            }
            return (ones & unknown) != 0 ? 'X' : 'Z';
        }

        private static int places(int shape) {
            int width = shape & Code.WIDTH;
            boolean signed = (shape & Code.SIGNED) != 0;
            long most = signed ? mask(width) >>> 1 : mask(width);
            int places = signed ? 2 : 1;
            for (int k = 0; k < 20 && (most < 0 || most > 9); k++) {
                most = tenth(most);
                places++;
            }
            return places;
        }

        /** Of a number without sign. */
        private static long tenth(long number) {
            return (number >>> 1) / 5;
        }

        private void decimal(long ones, long unknown, int shape, int places) {
            int width = shape & Code.WIDTH;
            int length = 0;
            if (unknown != 0) {
                digits[0] = unclear(ones, unknown, mask(width));
                length = 1;
            } else {
                boolean negative = (shape & Code.SIGNED) != 0 && (ones >>> width - 1 & 1) != 0;
                long rest = negative ? -asSigned(ones, width) : ones;
                for (int k = 0; k < 20 && (k == 0 || rest != 0); k++) {
                    digits[length] = (int) ('0' + (rest - tenth(rest) * 10));
                    length++;
                    rest = tenth(rest);
                }
                if (negative) {
                    digits[length] = '-';
                    length++;
                }
            }
            for (int k = length; k < places; k++) {
                put(' ');
            }
            for (int k = length - 1; k >= 0; k--) {
                put(digits[k]);
            }
        }
    }

    /** Plays THE CIRCUIT. */
    private static final class Stage {
        /** Far more lines than those that cost nothing between 20000 that do. */
        private static final int MOST_LINES = 1 << 24;
        private static final long MOST_DELAY = 1000000000;

        final Agenda agenda;
        private final Worth worth;
        final Book book;
        private Circuit circuit;
        private Code code;
        /** Of each process: its line, what it assigns after a wait, what it waits for. */
        private final int[] line = new int[MOST_TASKS];
        private final long[] heldOnes = new long[MOST_TASKS];
        private final long[] heldUnknown = new long[MOST_TASKS];
        /** The line of its EVENTS, or -1: any change will do. */
        private final int[] events = new int[MOST_TASKS];
        private final long[] heeded = new long[MOST_TASKS * SET_LONGS];
        /** The processes that wait for a change, in the order in which they began to. */
        private final int[] waiting = new int[MOST_TASKS];
        private int waitingCount;
        private final long[] counters = new long[Code.MOST_COUNTERS];
        /** The process that is in the midst of its STATEMENTS, -1: none. */
        private int midst;
        private int over;
        private int left;
        private int cost;
        private int end;

        Stage(Agenda someAgenda, Worth someWorth, Book someBook) {
            agenda = someAgenda;
            worth = someWorth;
            book = someBook;
        }

        void open(Circuit shown) {
            circuit = shown;
            code = shown.code;
            agenda.open(shown);
            worth.now = 0;
            book.open(shown);
            for (int k = 0; k < shown.processes; k++) {
                line[k] = shown.processStart[k];
            }
            waitingCount = 0;
            midst = -1;
            over = 0;
            cost = 0;
            end = 0;
        }

        int tally(int what) {
            switch (what) {
                case 1:
                    return circuit.signalCount;
                case 2:
                    return circuit.assigns;
                case 3:
                    return circuit.processes;
                case 4:
                    return book.size;
                case 5:
                    return cost;
                case 6:
                case 7:
                case 8:
                    return agenda.size[what - 6];
                case 9:
                    return agenda.future;
                case 10:
                    return waitingCount;
                default:
                    return over;
            }
        }

        int play(int n) {
            left = n;
            for (int k = 0; k < MOST_LINES && end == 0; k++) {
                if (midst < 0) {
                    if (left == 0 || !begin()) {
                        break;
                    }
                } else if (code.line[line[midst]] != Code.PAY) {
                    // What costs nothing is done with what was paid before it.
                    obey(midst, line[midst]);
                } else if (left > 0) {
                    pay();
                    line[midst]++;
                } else {
                    break;
                }
            }
            if (end != 0) {
                return end;
            }
            return midst < 0 && agenda.isEmpty() ? 2 : 0;
        }

        private void pay() {
            left--;
            cost++;
        }

        /** Takes an EVENT and does it, but for a process, which is to go on then; false: none. */
        private boolean begin() {
            int what = agenda.take();
            worth.now = agenda.now;
            if (what < 0) {
                return false;
            }
            pay();
            if (what >= Agenda.SETTINGS) {
                int slot = what - Agenda.SETTINGS;
                agenda.free(what);
                store(agenda.signal[slot], agenda.spot[slot], agenda.width[slot],
                        agenda.ones[slot], agenda.unknown[slot]);
            } else if (what >= Agenda.ASSIGNS) {
                drive(what - Agenda.ASSIGNS);
            } else {
                midst = what;
            }
            return true;
        }

        private int operand(int at, int number) {
            return code.line[at + number];
        }

        private void obey(int p, int at) {
            switch (operand(at, 0)) {
                case Code.SET:
                    worth.work(circuit, operand(at, 1));
                    line[p] = at + 4;
                    assign(operand(at, 2), operand(at, 3), worth.ones(), worth.unknown());
                    break;
                case Code.HOLD:
                    worth.work(circuit, operand(at, 1));
                    line[p] = at + 2;
                    heldOnes[p] = worth.ones();
                    heldUnknown[p] = worth.unknown();
                    break;
                case Code.PUT:
                    line[p] = at + 4;
                    assign(operand(at, 2), operand(at, 3), heldOnes[p], heldUnknown[p]);
                    break;
                case Code.AFTER:
                    line[p] = at + 5;
                    postpone(at);
                    break;
                case Code.SHOW:
                    line[p] = at + 3 + operand(at, 2);
                    book.show(at);
                    break;
                case Code.FINISH:
                    end = 1;
                    break;
                case Code.OVER:
                    over++;
                    midst = -1;
                    break;
                case Code.DELAY:
                case Code.AWAIT:
                case Code.STAR:
                case Code.UNTIL:
                    rest(p, at);
                    break;
                default:
                    line[p] = turned(at);
                    break;
            }
        }

        /** Where it is gone on behind a line that only says that. */
        private int turned(int at) {
            switch (operand(at, 0)) {
                case Code.JUMP:
                    return operand(at, 1);
                case Code.UNLESS:
                    worth.work(circuit, operand(at, 1));
                    return worth.isTrue() ? at + 3 : operand(at, 2);
                case Code.COUNT:
                    worth.work(circuit, operand(at, 2));
                    counters[operand(at, 1)] = worth.unknown() == 0 ? worth.ones() : 0;
                    return at + 3;
                case Code.NEXT:
                    if (counters[operand(at, 1)] == 0) {
                        return operand(at, 2);
                    }
                    counters[operand(at, 1)]--;
                    return at + 3;
                default:
                    return picked(at);
            }
        }

        private int picked(int at) {
            boolean casez = operand(at, 1) == 1;
            worth.work(circuit, operand(at, 2));
            long ones = worth.ones();
            long unknown = worth.unknown();
            int other = operand(at, 3);
            int choice = at + 4;
            for (int k = 0; k < MOST_INPUT; k++) {
                int labels = operand(choice, 2);
                if (labels == 0) {
                    other = operand(choice, 1);
                }
                for (int label = 0; label < labels; label++) {
                    worth.work(circuit, operand(choice, 3 + label));
                    if (isMatch(ones, unknown, casez)) {
                        return operand(choice, 1);
                    }
                }
                choice = operand(choice, 0);
                if (choice == 0) {
                    break;
                }
            }
            return other;
        }

        private boolean isMatch(long ones, long unknown, boolean casez) {
            long differing = ones ^ worth.ones() | unknown ^ worth.unknown();
            long free = unknown & ~ones | worth.unknown() & ~worth.ones();
            return (casez ? differing & ~free : differing) == 0;
        }

        private long delayOf(int root) {
            worth.work(circuit, root);
            if (worth.unknown() != 0) {
                return 0;
            }
            long by = worth.ones();
            return by < 0 || by > MOST_DELAY ? MOST_DELAY : by;
        }

        /** The process waits, unless it waits for what is TRUE already. */
        private void rest(int p, int at) {
            switch (operand(at, 0)) {
                case Code.DELAY:
                    line[p] = at + 2;
                    long by = delayOf(operand(at, 1));
                    if (by == 0) {
                        agenda.add(Agenda.INACTIVE, p);
                    } else {
                        agenda.delay(p, by);
                    }
                    midst = -1;
                    break;
                case Code.AWAIT:
                    line[p] = at + 2 + 3 * operand(at, 1);
                    heed(p, at + 1);
                    break;
                case Code.STAR:
                    line[p] = at + 3;
                    heedNodes(p, operand(at, 1), operand(at, 2));
                    break;
                default:
                    int root = operand(at, 1);
                    worth.work(circuit, root);
                    if (worth.isTrue()) {
                        line[p] = at + 2;
                    } else {
                        heedNodes(p, code.first[root], root + 1);
                    }
                    break;
            }
        }

        private void heed(int p, int at) {
            beginToWait(p, at);
            for (int k = 0; k < operand(at, 0); k++) {
                include(p, operand(at, 2 + 3 * k));
            }
        }

        private void heedNodes(int p, int from, int to) {
            beginToWait(p, -1);
            for (int k = from; k < to; k++) {
                int read = circuit.signalRead(k);
                if (read >= 0) {
                    include(p, read);
                }
            }
        }

        private void beginToWait(int p, int at) {
            midst = -1;
            events[p] = at;
            waiting[waitingCount] = p;
            waitingCount++;
            Arrays.fill(heeded, p * SET_LONGS, (p + 1) * SET_LONGS, 0);
        }

        private void include(int p, int signal) {
            heeded[p * SET_LONGS + signal / 64] |= 1L << signal % 64;
        }

        /** How many bits a row of LEFTS has. */
        private int widthOf(int from, int to) {
            int width = 0;
            for (int k = from; k < to; k++) {
                width += code.leftWidth[k];
            }
            return width;
        }

        /** Where a LEFT lies in its VARIABLE: 64 times the word, and the bit; -1: nowhere. */
        private int spot(int leftAt) {
            Signal signal = circuit.signals[code.leftSignal[leftAt]];
            int index = code.leftIndex[leftAt];
            switch (code.leftWay[leftAt]) {
                case Code.WHOLE:
                    return 0;
                case Code.PART:
                    return index;
                case Code.BIT:
                    worth.work(circuit, index);
                    return within(worth.index(0, code.given[index]), signal.low, signal.width);
                case Code.WORD:
                    worth.work(circuit, index);
                    int word = within(worth.index(0, code.given[index]), signal.wordLow,
                            signal.words);
                    return word < 0 ? -1 : word * 64;
                default:
                    return -1;
            }
        }

        private void assign(int from, int to, long ones, long unknown) {
            int rest = widthOf(from, to);
            for (int k = from; k < to; k++) {
                int width = code.leftWidth[k];
                rest -= width;
                store(code.leftSignal[k], spot(k), width, ones >>> rest, unknown >>> rest);
            }
        }

        private void postpone(int at) {
            worth.work(circuit, operand(at, 1));
            long ones = worth.ones();
            long unknown = worth.unknown();
            int to = operand(at, 3);
            int rest = widthOf(operand(at, 2), to);
            long by = operand(at, 4) < 0 ? 0 : delayOf(operand(at, 4));
            for (int k = operand(at, 2); k < to; k++) {
                int width = code.leftWidth[k];
                rest -= width;
                int made = agenda.plan(code.leftSignal[k], spot(k), width, ones >>> rest,
                        unknown >>> rest);
                if (made < 0) {
                    end = 3;
                    break;
                }
                if (by == 0) {
                    agenda.add(Agenda.LATER, made);
                } else {
                    agenda.delay(made, by);
                }
            }
        }

        /** Sets bits of a VARIABLE; those of the numbers beyond the width do not count. */
        void store(int v, int spot, int width, long ones, long unknown) {
            if (spot < 0) {
                return;
            }
            int cell = circuit.signals[v].cell + spot / 64;
            int low = spot % 64;
            long bits = mask(width) << low;
            change(v, cell, circuit.ones[cell] & ~bits | ones << low & bits,
                    circuit.unknown[cell] & ~bits | unknown << low & bits);
        }

        private void drive(int assign) {
            worth.work(circuit, circuit.assignRoot[assign]);
            long ones = worth.ones();
            long unknown = worth.unknown();
            int from = circuit.assignFrom[assign];
            int to = circuit.assignTo[assign];
            int rest = widthOf(from, to);
            for (int k = from; k < to; k++) {
                int width = code.leftWidth[k];
                rest -= width;
                int low = spot(k);
                if (low >= 0) {
                    long bits = mask(width) << low;
                    code.driverOnes[k] = ones >>> rest << low & bits;
                    code.driverUnknown[k] = unknown >>> rest << low & bits | ~bits;
                    resolve(code.leftSignal[k]);
                }
            }
        }

        /** What all drivers of a NET make of it. */
        private void resolve(int v) {
            Signal net = circuit.signals[v];
            long zeros = 0;
            long highs = 0;
            long unclear = 0;
            for (int k = net.driver; k >= 0; k = code.driverNext[k]) {
                zeros |= ~code.driverOnes[k] & ~code.driverUnknown[k];
                highs |= code.driverOnes[k] & ~code.driverUnknown[k];
                unclear |= code.driverOnes[k] & code.driverUnknown[k];
            }
            long driven = zeros | highs | unclear;
            if (net.sort == Signal.WAND) {
                highs &= ~zeros;
                unclear &= ~zeros;
            } else if (net.sort == Signal.WOR) {
                unclear &= ~highs;
            } else {
                unclear |= zeros & highs;
            }
            long all = mask(net.width);
            change(v, net.cell, (highs | unclear) & all, (unclear | ~driven) & all);
        }

        private void change(int v, int cell, long ones, long unknown) {
            long onesBefore = circuit.ones[cell];
            long unknownBefore = circuit.unknown[cell];
            if (ones == onesBefore && unknown == unknownBefore) {
                return;
            }
            circuit.ones[cell] = ones;
            circuit.unknown[cell] = unknown;
            int kept = 0;
            for (int k = 0; k < waitingCount; k++) {
                int p = waiting[k];
                boolean heeds = (heeded[p * SET_LONGS + v / 64] >>> v % 64 & 1) != 0;
                if (heeds && fits(events[p], v, cell, onesBefore, unknownBefore)) {
                    agenda.add(Agenda.ACTIVE, p);
                } else {
                    waiting[kept] = p;
                    kept++;
                }
            }
            waitingCount = kept;
            for (int k = 0; k < SET_LONGS; k++) {
                long set = circuit.readers[v * SET_LONGS + k];
                for (int one = 0; one < 64 && set != 0; one++) {
                    int reader = Agenda.ASSIGNS + k * 64 + Long.numberOfTrailingZeros(set);
                    set &= set - 1;
                    if (!agenda.holds(reader)) {
                        agenda.add(Agenda.ACTIVE, reader);
                    }
                }
            }
        }

        /** Whether one of the EVENTS at a line is the change that has happened. */
        private boolean fits(int at, int v, int cell, long onesBefore, long unknownBefore) {
            if (at < 0) {
                return true;
            }
            for (int k = at + 1; k < at + 1 + 3 * code.line[at]; k += 3) {
                int edge = code.line[k];
                int bit = code.line[k + 2];
                if (code.line[k + 1] != v || bit == -2) {
                    continue;
                }
                if (bit == -1) {
                    return true;
                }
                int before = state(onesBefore, unknownBefore, bit);
                int after = state(circuit.ones[cell], circuit.unknown[cell], bit);
                if (before != after
                        && (edge == 0 || before == edge - 1 || after == 2 - edge)) {
                    return true;
                }
            }
            return false;
        }

        /** A bit as a number: 0, 1, 2 for z, 3 for x. */
        private static int state(long ones, long unknown, int bit) {
            return (int) (ones >>> bit & 1 | (unknown >>> bit & 1) << 1);
        }
    }
}
