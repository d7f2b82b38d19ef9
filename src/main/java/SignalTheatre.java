import java.util.Arrays;
import java.util.NoSuchElementException;

/**
 * Simulates digital circuits from their description.
 *
 * <p>A TEXT is cut into TOKENS, read once for its form, and read again for each instance while the
 * flat circuit is made of it; processes are then played from one row of code. The words in capitals
 * are those of the document.
 */
public final class SignalTheatre {
    private static final int MOST_INPUT = 32768;
    private static final int MOST_LOG = 32768;
    private static final int MOST_SIGNALS = 400;
    private static final int MOST_TASKS = 400;
    private static final int MOST_WORDS = 8192;
    private static final int MOST_TOKENS = 40000;
    private static final int MOST_INSTANCES = 100;
    private static final int MOST_DEEP = 20;
    private static final int MOST_DEPTH = 40;
    private static final int MOST_RUN = 20000;
    /** Sets of up to 400 numbers are kept as bits in this many longs. */
    private static final int SET_LONGS = 7;

    private final byte[] input = new byte[MOST_INPUT];
    private int length;
    private boolean built;
    private Circuit circuit;
    private Circuit spare;
    private final Faults faults;
    private final Builder builder;
    private final Stage stage;

    public SignalTheatre() {
        circuit = new Circuit();
        spare = new Circuit();
        faults = new Faults();
        builder = new Builder(faults);
        stage = new Stage();
    }

    public int feed(int a, int b, int c, int d, int e) throws IndexOutOfBoundsException {
        if (length + 20 > MOST_INPUT) {
            throw new IndexOutOfBoundsException();
        }
        append(a);
        append(b);
        append(c);
        append(d);
        append(e);
        return length;
    }

    private void append(int four) {
        for (int shift = 24; shift >= 0; shift -= 8) {
            input[length] = (byte) (four >> shift);
            length++;
        }
    }

    public int end(int n) throws IllegalArgumentException {
        if (n < 0 || n > length) {
            throw new IllegalArgumentException();
        }
        length -= n;
        return length;
    }

    public int build() throws IllegalStateException {
        int size = length;
        length = 0;
        spare.clear(input, size);
        builder.check(spare, size);
        builder.flatten();
        Circuit made = spare;
        spare = circuit;
        circuit = made;
        built = true;
        stage.open(made);
        return made.signalCount;
    }

    public int fault(int what) throws IllegalArgumentException {
        if (what < 0 || what > 1) {
            throw new IllegalArgumentException();
        }
        return what == 0 ? faults.number : faults.place;
    }

    public int run(int n) throws IllegalArgumentException, IllegalStateException {
        if (n < 1 || n > MOST_RUN) {
            throw new IllegalArgumentException();
        }
        if (!built) {
            throw new IllegalStateException();
        }
        return stage.play(n);
    }

    public long value(int v, int w, int part)
            throws IllegalArgumentException, NoSuchElementException {
        if (part < 0 || part > 1) {
            throw new IllegalArgumentException();
        }
        if (!isThere(v, w)) {
            throw new NoSuchElementException();
        }
        int cell = circuit.signals[v].cell + w;
        return part == 0 ? circuit.ones[cell] : circuit.unknown[cell];
    }

    public void set(int v, int w, long ones, long unknown) throws NoSuchElementException {
        if (!isThere(v, w) || circuit.signals[v].sort != Signal.VARIABLE) {
            throw new NoSuchElementException();
        }
        stage.store(v, w * 64, circuit.signals[v].width, ones, unknown);
    }

    public int told(int v, int what)
            throws IllegalArgumentException, NoSuchElementException {
        if (what < 0 || what > 4) {
            throw new IllegalArgumentException();
        }
        if (!isSignal(v)) {
            throw new NoSuchElementException();
        }
        Signal signal = circuit.signals[v];
        switch (what) {
            case 0:
                return signal.width;
            case 1:
                return signal.signed ? 1 : 0;
            case 2:
                return signal.words;
            case 3:
                return signal.sort;
            default:
                return circuit.nameLength(v);
        }
    }

    public int letter(int v, int i) throws NoSuchElementException {
        if (!isSignal(v) || i < 0 || i >= circuit.nameLength(v)) {
            throw new NoSuchElementException();
        }
        return circuit.nameByte(v, i);
    }

    public int log(int i) throws IndexOutOfBoundsException {
        if (!built || i < 0 || i >= stage.book.size) {
            throw new IndexOutOfBoundsException();
        }
        return stage.book.bytes[i] & 255;
    }

    public long time() {
        return built ? stage.agenda.now : 0;
    }

    public int count(int what) {
        if (what == 0) {
            return length;
        }
        if (what < 0 || what > 11) {
            return -1;
        }
        return built ? stage.tally(what) : 0;
    }

    private boolean isSignal(int v) {
        return built && v >= 0 && v < circuit.signalCount;
    }

    private boolean isThere(int v, int w) {
        return isSignal(v) && w >= 0 && w < Math.max(1, circuit.signals[v].words);
    }

    /** The latest FAULT, and the one with the least PLACE found so far in what is being looked at. */
    private static final class Faults {
        int number;
        int place = -1;
        int foundNumber;
        int foundPlace;
        /** Whether more than too wide braces was found: then widths are not to be trusted. */
        boolean hard;

        void note(int kind, int where) {
            hard = true;
            keep(kind, where);
        }

        void noteWide(int where) {
            keep(4, where);
        }

        private void keep(int kind, int where) {
            boolean first = foundNumber == 0 || where < foundPlace;
            if (first || where == foundPlace && kind < foundNumber) {
                foundNumber = kind;
                foundPlace = where;
            }
        }

        boolean isFound() {
            return foundNumber != 0;
        }

        void settle() {
            if (foundNumber != 0) {
                refuse(foundNumber, foundPlace);
            }
        }

        void refuse(int kind, int where) {
            number = kind;
            place = where;
            forget();
            throw new IllegalStateException();
        }

        void forget() {
            foundNumber = 0;
            foundPlace = 0;
            hard = false;
        }
    }

    /** Cuts a TEXT into TOKENS and keeps them, the NAMES in them numbered. */
    private static final class Tokens {
        static final int NAME = 1;
        static final int NUMBER = 2;
        static final int STRING = 3;
        static final int WRONG = 4;
        static final int END = 5;
        // SIGNS of one byte stand for themselves; longer ones follow the order of SIGNS.
        static final int SAME = 128;
        static final int NOT_SAME = 129;
        static final int UP_SIGNED = 130;
        static final int DOWN_SIGNED = 131;
        static final int EQUAL = 132;
        static final int UNEQUAL = 133;
        static final int AT_MOST = 134;
        static final int AT_LEAST = 135;
        static final int UP = 136;
        static final int DOWN = 137;
        static final int BOTH = 138;
        static final int EITHER = 139;
        static final int NAND = 140;
        static final int NOR = 141;
        static final int XNOR = 142;
        private static final String SIGNS =
                "=== !== <<< >>> == != <= >= << >> && || ~& ~| ~^ ";
        private static final String PLAIN_SIGNS = "()[]{};:,.#@*/%+-<>=!~&|^?";
        // Words follow the order of WORDS.
        static final int MODULE = 160;
        static final int PARAMETER = 161;
        static final int ENDMODULE = 162;
        static final int INPUT = 163;
        static final int OUTPUT = 164;
        static final int WIRE = 165;
        static final int WAND = 166;
        static final int WOR = 167;
        static final int REG = 168;
        static final int SIGNED = 169;
        static final int INTEGER = 170;
        static final int LOCALPARAM = 171;
        static final int ASSIGN = 172;
        static final int INITIAL = 173;
        static final int ALWAYS = 174;
        static final int BEGIN = 175;
        static final int END_BLOCK = 176;
        static final int WAIT = 177;
        static final int IF = 178;
        static final int ELSE = 179;
        static final int CASE = 180;
        static final int CASEZ = 181;
        static final int DEFAULT = 182;
        static final int ENDCASE = 183;
        static final int FOR = 184;
        static final int WHILE = 185;
        static final int REPEAT = 186;
        static final int FOREVER = 187;
        static final int OR = 188;
        static final int POSEDGE = 189;
        static final int NEGEDGE = 190;
        static final int DISPLAY = 191;
        static final int WRITE = 192;
        static final int FINISH = 193;
        static final int TIME = 194;
        static final int AS_SIGNED = 195;
        static final int AS_UNSIGNED = 196;
        private static final String WORDS = """
                module parameter endmodule input output wire wand wor reg signed integer \
                localparam assign initial always begin end wait if else case casez default \
                endcase for while repeat forever or posedge negedge \
                $display $write $finish $time $signed $unsigned \
                """;
        static final int MOST_NAMES = MOST_INPUT / 2 + 1;
        private static final int LONGEST_NAME = 64;
        private static final int HEADS = 4096;
        /** What digits are besides their numbers. */
        private static final int DIGIT_X = 16;
        private static final int DIGIT_Z = 17;

        byte[] text;
        int length;
        final int[] kind = new int[MOST_INPUT + 1];
        final int[] place = new int[MOST_INPUT + 1];
        /** Of a NAME its number; of a { whether copies are made in it. */
        final int[] info = new int[MOST_INPUT + 1];
        int size;
        private final int[] nameHead = new int[HEADS];
        private final int[] nameNext = new int[MOST_NAMES];
        private final int[] namePlace = new int[MOST_NAMES];
        final int[] nameLength = new int[MOST_NAMES];
        int names;
        /** The NUMBER that was read last. */
        long ones;
        long unknown;
        int width;
        boolean signed;

        void cut(byte[] bytes, int bytesThere) {
            text = bytes;
            length = bytesThere;
            size = 0;
            names = 0;
            Arrays.fill(nameHead, -1);
            int at = skipped(0);
            for (int k = 0; k < MOST_INPUT && at >= 0 && at < length; k++) {
                int behind = token(at);
                at = behind < 0 ? behind : skipped(behind);
            }
            add(at < 0 ? WRONG : END, at < 0 ? ~at : length, 0);
        }

        private void add(int sort, int where, int more) {
            if (size <= MOST_INPUT) {
                kind[size] = sort;
                place[size] = where;
                info[size] = more;
                size++;
            }
        }

        private int byteAt(int at) {
            return at < length ? text[at] & 255 : -1;
        }

        /** The place behind the SPACES at a place; ~ of the place where a note that is open ends. */
        private int skipped(int from) {
            int at = from;
            while (at >= 0 && at < length) {
                int c = text[at];
                if (c == ' ' || c == 9 || c == 10 || c == 13) {
                    at++;
                } else if (c == '/' && byteAt(at + 1) == '/') {
                    at = behindLine(at);
                } else if (c == '/' && byteAt(at + 1) == '*') {
                    at = behindNote(at + 2);
                } else {
                    break;
                }
            }
            return at;
        }

        private int behindLine(int from) {
            int at = from;
            while (at < length && text[at] != 10) {
                at++;
            }
            return at;
        }

        private int behindNote(int from) {
            for (int at = from; at + 1 < length; at++) {
                if (text[at] == '*' && text[at + 1] == '/') {
                    return at + 2;
                }
            }
            return ~length;
        }

        /** Adds the TOKEN at a place; answers the place behind it, or ~ of the wrong one. */
        private int token(int at) {
            int c = byteAt(at);
            if (beginsName(c)) {
                return name(at);
            }
            if (isDigit(c) || c == '\'') {
                int behind = number(at);
                if (behind >= 0) {
                    add(NUMBER, at, 0);
                }
                return behind;
            }
            if (c == '$') {
                return system(at);
            }
            return c == '"' ? string(at) : sign(at);
        }

        private static boolean isDigit(int c) {
            return c >= '0' && c <= '9';
        }

        private static boolean beginsName(int c) {
            return c >= 'a' && c <= 'z' || c >= 'A' && c <= 'Z' || c == '_';
        }

        private int behindName(int from) {
            int at = from;
            while (at < length && (beginsName(text[at]) || isDigit(text[at]))) {
                at++;
            }
            return at;
        }

        private int name(int at) {
            int behind = behindName(at);
            if (behind - at > LONGEST_NAME) {
                return ~(at + LONGEST_NAME);
            }
            int word = listed(WORDS, at, behind - at);
            if (word >= 0) {
                add(MODULE + word, at, 0);
            } else {
                add(NAME, at, numberOf(at, behind - at));
            }
            return behind;
        }

        private int system(int at) {
            if (!beginsName(byteAt(at + 1))) {
                return ~(at + 1);
            }
            int behind = behindName(at + 1);
            if (behind - at - 1 > LONGEST_NAME) {
                return ~(at + 1 + LONGEST_NAME);
            }
            int word = listed(WORDS, at, behind - at);
            add(word >= 0 ? MODULE + word : WRONG, at, 0);
            return behind;
        }

        private int string(int from) {
            for (int at = from + 1; at < length; at++) {
                int c = text[at] & 255;
                if (c == '"') {
                    add(STRING, from, 0);
                    return at + 1;
                }
                if (c < 32 || c > 126) {
                    return ~at;
                }
                if (c == '\\') {
                    at++;
                }
            }
            return ~length;
        }

        private int sign(int at) {
            for (int bytes = 3; bytes >= 2; bytes--) {
                int found = listed(SIGNS, at, bytes);
                if (found >= 0) {
                    add(SAME + found, at, 0);
                    return at + bytes;
                }
            }
            if (PLAIN_SIGNS.indexOf((char) byteAt(at)) < 0) {
                return ~at;
            }
            add(byteAt(at), at, 0);
            return at + 1;
        }

        /** Which word of a list, each with a space behind it, the bytes at a place are; -1: none. */
        private int listed(String list, int at, int bytes) {
            int index = 0;
            int start = 0;
            for (int k = 0; k < list.length(); k++) {
                if (list.charAt(k) == ' ') {
                    if (k - start == bytes && isAt(list, start, at, bytes)) {
                        return index;
                    }
                    index++;
                    start = k + 1;
                }
            }
            return -1;
        }

        private boolean isAt(String list, int start, int at, int bytes) {
            for (int k = 0; k < bytes; k++) {
                if (byteAt(at + k) != list.charAt(start + k)) {
                    return false;
                }
            }
            return true;
        }

        private int numberOf(int at, int bytes) {
            int hash = 0;
            for (int k = 0; k < bytes; k++) {
                hash = hash * 31 + text[at + k];
            }
            int head = (hash ^ hash >>> 12) & HEADS - 1;
            for (int known = nameHead[head]; known >= 0; known = nameNext[known]) {
                if (nameLength[known] == bytes && isEqual(namePlace[known], at, bytes)) {
                    return known;
                }
            }
            if (names >= MOST_NAMES) {
                return 0;
            }
            namePlace[names] = at;
            nameLength[names] = bytes;
            nameNext[names] = nameHead[head];
            nameHead[head] = names;
            names++;
            return names - 1;
        }

        private boolean isEqual(int one, int other, int bytes) {
            for (int k = 0; k < bytes; k++) {
                if (text[one + k] != text[other + k]) {
                    return false;
                }
            }
            return true;
        }

        /** Reads the NUMBER at a place; answers the place behind it, or ~ of the wrong one. */
        int number(int from) {
            int at = from;
            long digits = 0;
            while (at < length && (isDigit(text[at]) || at > from && text[at] == '_')) {
                if (text[at] != '_') {
                    digits = digits * 10 + text[at] - '0';
                }
                if (digits > Integer.MAX_VALUE) {
                    return ~at;
                }
                at++;
            }
            ones = digits;
            unknown = 0;
            width = 32;
            signed = true;
            if (byteAt(at) != '\'') {
                return at;
            }
            if (at > from) {
                if (digits < 1 || digits > 64) {
                    return ~at;
                }
                width = (int) digits;
            }
            return based(at + 1);
        }

        private int based(int from) {
            int at = from;
            signed = lower(byteAt(at)) == 's';
            if (signed) {
                at++;
            }
            switch (lower(byteAt(at))) {
                case 'b':
                    return bits(at + 1, 1);
                case 'o':
                    return bits(at + 1, 3);
                case 'h':
                    return bits(at + 1, 4);
                case 'd':
                    return decimal(at + 1);
                default:
                    return ~at;
            }
        }

        private static int lower(int c) {
            return c >= 'A' && c <= 'Z' ? c + 32 : c;
        }

        private int bits(int from, int each) {
            long all = (1 << each) - 1;
            int highest = 0;
            int got = 0;
            int at = from;
            ones = 0;
            while (at < length) {
                int digit = digit(lower(byteAt(at)), each);
                if (digit >= 0) {
                    highest = got == 0 ? digit : highest;
                    got += each;
                    ones = ones << each | (digit == DIGIT_X ? all : digit == DIGIT_Z ? 0 : digit);
                    unknown = unknown << each | (digit >= DIGIT_X ? all : 0);
                } else if (got == 0 || text[at] != '_') {
                    break;
                }
                at++;
            }
            if (got == 0) {
                return ~at;
            }
            if (got < width && highest >= DIGIT_X) {
                unknown |= -1L << got;
                ones |= highest == DIGIT_X ? -1L << got : 0;
            }
            ones &= mask(width);
            unknown &= mask(width);
            return at;
        }

        private static int digit(int c, int each) {
            if (c == 'x') {
                return DIGIT_X;
            }
            if (c == 'z' || c == '?') {
                return DIGIT_Z;
            }
            int digit = isDigit(c) ? c - '0' : c >= 'a' && c <= 'f' ? c - 'a' + 10 : -1;
            return digit < 1 << each ? digit : -1;
        }

        private int decimal(int from) {
            int first = lower(byteAt(from));
            if (first == 'x' || first == 'z' || first == '?') {
                unknown = mask(width);
                ones = first == 'x' ? unknown : 0;
                return from + 1;
            }
            if (!isDigit(first)) {
                return ~from;
            }
            long most = 1844674407370955161L;
            int at = from;
            ones = 0;
            while (at < length && (isDigit(text[at]) || text[at] == '_')) {
                int digit = text[at] - '0';
                if (text[at] != '_') {
                    if (ones < 0 || ones > most || ones == most && digit > 5) {
                        return ~at;
                    }
                    ones = ones * 10 + digit;
                }
                at++;
            }
            ones &= mask(width);
            return at;
        }
    }

    /** The lowest bits, 1 to 64 of them. */
    private static long mask(int width) {
        return -1L >>> 64 - width;
    }

    /** The number that the lowest bits are if the highest of them is a sign. */
    private static long asSigned(long bits, int width) {
        return bits << 64 - width >> 64 - width;
    }

    /** Where a number lies in a row that begins with low; -1 if it is not there. */
    private static int within(long number, int low, int size) {
        long at = number - low;
        return number >= low && at >= 0 && at < size ? (int) at : -1;
    }

    /** A VARIABLE or NET. */
    private static final class Signal {
        static final int VARIABLE = 0;
        static final int WIRE = 1;
        static final int WAND = 2;
        static final int WOR = 3;
        static final int NO_PORT = 0;
        static final int INWARD = 1;
        static final int OUTWARD = 2;

        int width;
        boolean signed;
        int low;
        int words;
        int wordLow;
        int sort;
        int port;
        boolean linked;
        int cell;
        int scope;
        int place;
        int bytes;
        /** The first of its drivers, -1: none; the others hang on it. */
        int driver;

        void become(Signal other) {
            width = other.width;
            signed = other.signed;
            low = other.low;
            words = other.words;
            wordLow = other.wordLow;
            sort = other.sort;
            port = other.port;
            linked = false;
            driver = -1;
        }

        int shape() {
            return signed ? width | Code.SIGNED : width;
        }
    }

    /**
     * EXPRS, LEFTS and STATEMENTS as rows.
     *
     * <p>An EXPR is a run of nodes, operands before their operators, so it is worked out and given
     * its CONTEXT by plain loops however long it is.
     */
    private static final class Code {
        /** A shape is a WIDTH, and this if it is signed. */
        static final int SIGNED = 128;
        static final int WIDTH = 127;
        // Operators between operands bear the kind of their TOKEN, those before one this more.
        static final int UNARY = 256;
        static final int CONSTANT = 512;
        static final int WHOLE = 513;
        static final int BIT = 514;
        static final int PART = 515;
        static final int WORD = 516;
        static final int CONSTANT_BIT = 517;
        static final int NOW = 518;
        static final int FIRST = 519;
        static final int JOIN = 520;
        static final int COPIES = 521;
        static final int RENAMED = 522;
        static final int UNKNOWN = 523;
        static final int FOREIGN = 524;
        /** A LEFT that is not there. */
        static final int NOWHERE = 525;
        // What stands in the row of STATEMENTS.
        static final int PAY = 0;
        static final int SET = 1;
        static final int HOLD = 2;
        static final int PUT = 3;
        static final int AFTER = 4;
        static final int DELAY = 5;
        static final int AWAIT = 6;
        static final int STAR = 7;
        static final int UNTIL = 8;
        static final int JUMP = 9;
        static final int UNLESS = 10;
        static final int PICK = 11;
        static final int COUNT = 12;
        static final int NEXT = 13;
        static final int SHOW = 14;
        static final int FINISH = 15;
        static final int OVER = 16;
        /** A TOKEN makes one node at most, a LEFT or a NUMBER has two TOKENS, forever four lines. */
        private static final int MOST_NODES = MOST_TOKENS;
        private static final int MOST_LEFTS = MOST_TOKENS / 2;
        private static final int MOST_CONSTANTS = MOST_TOKENS / 2;
        private static final int MOST_LINES = MOST_TOKENS * 4;
        /** repeat ( E ) ; has five TOKENS. */
        static final int MOST_COUNTERS = MOST_TOKENS / 5;

        final int[] op = new int[MOST_NODES];
        final int[] arg = new int[MOST_NODES];
        /** Where the operands of a node begin. */
        final int[] first = new int[MOST_NODES];
        /** The shape that it has by itself, and that of its CONTEXT. */
        final int[] own = new int[MOST_NODES];
        final int[] given = new int[MOST_NODES];
        int nodes;
        final long[] ones = new long[MOST_CONSTANTS];
        final long[] unknown = new long[MOST_CONSTANTS];
        int constants;
        final int[] leftSignal = new int[MOST_LEFTS];
        final int[] leftWay = new int[MOST_LEFTS];
        final int[] leftIndex = new int[MOST_LEFTS];
        final int[] leftWidth = new int[MOST_LEFTS];
        final int[] driverNext = new int[MOST_LEFTS];
        final long[] driverOnes = new long[MOST_LEFTS];
        final long[] driverUnknown = new long[MOST_LEFTS];
        int lefts;
        final int[] line = new int[MOST_LINES];
        int lines;
        int counters;

        void clear() {
            nodes = 0;
            constants = 0;
            lefts = 0;
            lines = 0;
            counters = 0;
        }

        int root() {
            return Math.max(0, nodes - 1);
        }

        void node(int kind, int what, int from, int shape) {
            if (nodes < MOST_NODES) {
                op[nodes] = kind;
                arg[nodes] = what;
                first[nodes] = from;
                own[nodes] = shape;
                given[nodes] = shape;
                nodes++;
            }
        }

        void constant(long someOnes, long someUnknown, int shape) {
            if (constants < MOST_CONSTANTS) {
                ones[constants] = someOnes;
                unknown[constants] = someUnknown;
                node(CONSTANT, constants, nodes, shape);
                constants++;
            }
        }

        /** A bit of a parameter; its index is the last EXPR, which begins there. */
        void constantBit(long someOnes, int from) {
            if (constants < MOST_CONSTANTS) {
                ones[constants] = someOnes;
                unknown[constants] = 0;
                node(CONSTANT_BIT, constants, from, 1);
                constants++;
            }
        }

        /** Takes the last EXPR away again. */
        void drop() {
            int from = nodes == 0 ? 0 : first[nodes - 1];
            for (int k = from; k < nodes; k++) {
                if (op[k] == CONSTANT || op[k] == CONSTANT_BIT) {
                    constants--;
                }
            }
            nodes = from;
        }

        void left(int signal, int way, int index, int width) {
            if (lefts < MOST_LEFTS) {
                leftSignal[lefts] = signal;
                leftWay[lefts] = way;
                leftIndex[lefts] = index;
                leftWidth[lefts] = width;
                lefts++;
            }
        }

        void emit(int what) {
            if (lines < MOST_LINES) {
                line[lines] = what;
                lines++;
            }
        }

        /** How tightly an operator between operands binds, 1 to 10; 0: it is none. */
        static int level(int kind) {
            switch (kind) {
                case Tokens.EITHER:
                    return 1;
                case Tokens.BOTH:
                    return 2;
                case '|':
                    return 3;
                case '^':
                case Tokens.XNOR:
                    return 4;
                case '&':
                    return 5;
                case Tokens.EQUAL:
                case Tokens.UNEQUAL:
                case Tokens.SAME:
                case Tokens.NOT_SAME:
                    return 6;
                case '<':
                case '>':
                case Tokens.AT_MOST:
                case Tokens.AT_LEAST:
                    return 7;
                case Tokens.UP:
                case Tokens.DOWN:
                case Tokens.UP_SIGNED:
                case Tokens.DOWN_SIGNED:
                    return 8;
                case '+':
                case '-':
                    return 9;
                case '*':
                case '/':
                case '%':
                    return 10;
                default:
                    return 0;
            }
        }

        /** The shape of two operands that are brought to the same one. */
        static int wider(int one, int other) {
            return Math.max(one & WIDTH, other & WIDTH) | one & other & SIGNED;
        }

        /** Gives an EXPR its CONTEXT: operators stand behind their operands, so from the end on. */
        void shape(int root, int shape) {
            given[root] = shape;
            for (int k = root; k >= first[root]; k--) {
                if (first[k] < k) {
                    spread(k);
                }
            }
        }

        private void spread(int k) {
            int last = k - 1;
            int kind = op[k];
            given[last] = own[last];
            if (kind == '?') {
                int middle = first[last] - 1;
                int condition = first[middle] - 1;
                given[last] = given[k];
                given[middle] = given[k];
                given[condition] = own[condition];
            } else if (kind == JOIN) {
                given[first[last] - 1] = own[first[last] - 1];
            } else if (kind < UNARY) {
                spreadToBoth(k, first[last] - 1, last);
            } else if (kind == UNARY + '+' || kind == UNARY + '-' || kind == UNARY + '~') {
                given[last] = given[k];
            }
        }

        private void spreadToBoth(int k, int left, int right) {
            int level = level(op[k]);
            if (level <= 2) {
                given[left] = own[left];
            } else if (level == 6 || level == 7) {
                int both = wider(own[left], own[right]);
                given[left] = both;
                given[right] = both;
            } else {
                given[left] = given[k];
                given[right] = level == 8 ? own[right] : given[k];
            }
        }
    }

    /** A flat circuit, with the values of its VARIABLES and NETS. */
    private static final class Circuit {
        final byte[] text = new byte[MOST_INPUT];
        final Code code = new Code();
        final Signal[] signals = new Signal[MOST_SIGNALS];
        int signalCount;
        final long[] ones = new long[MOST_SIGNALS + MOST_WORDS];
        final long[] unknown = new long[MOST_SIGNALS + MOST_WORDS];
        int cells;
        int words;
        /** Scope 0 is the TOP, the others are the instances. */
        final int[] scopeAbove = new int[MOST_INSTANCES + 1];
        final int[] scopePlace = new int[MOST_INSTANCES + 1];
        final int[] scopeBytes = new int[MOST_INSTANCES + 1];
        int scopes;
        final int[] assignRoot = new int[MOST_TASKS];
        final int[] assignFrom = new int[MOST_TASKS];
        final int[] assignTo = new int[MOST_TASKS];
        int assigns;
        final int[] processStart = new int[MOST_TASKS];
        int processes;
        /** ASSIGNS and processes as the EVENTS that they are at first. */
        final int[] order = new int[MOST_TASKS];
        /** For each VARIABLE or NET the set of ASSIGNS that read it. */
        final long[] readers = new long[MOST_SIGNALS * SET_LONGS];

        Circuit() {
            for (int k = 0; k < MOST_SIGNALS; k++) {
                signals[k] = new Signal();
            }
        }

        void clear(byte[] bytes, int length) {
            System.arraycopy(bytes, 0, text, 0, length);
            code.clear();
            signalCount = 0;
            cells = 0;
            words = 0;
            scopes = 0;
            assigns = 0;
            processes = 0;
            Arrays.fill(readers, 0);
        }

        boolean isFull() {
            return assigns + processes >= MOST_TASKS;
        }

        int addScope(int above, int place, int bytes) {
            if (scopes > MOST_INSTANCES) {
                return 0;
            }
            scopeAbove[scopes] = above;
            scopePlace[scopes] = place;
            scopeBytes[scopes] = bytes;
            scopes++;
            return scopes - 1;
        }

        void addSignal(Signal mould, int scope, int place, int bytes) {
            int size = Math.max(1, mould.words);
            if (signalCount >= MOST_SIGNALS || words + mould.words > MOST_WORDS) {
                return;
            }
            Signal signal = signals[signalCount];
            signal.become(mould);
            signal.cell = cells;
            signal.scope = scope;
            signal.place = place;
            signal.bytes = bytes;
            long all = mask(signal.width);
            for (int k = cells; k < cells + size; k++) {
                ones[k] = signal.sort == Signal.VARIABLE ? all : 0;
                unknown[k] = all;
            }
            cells += size;
            words += mould.words;
            signalCount++;
        }

        void addProcess(int start) {
            if (!isFull()) {
                order[assigns + processes] = processes;
                processStart[processes] = start;
                processes++;
            }
        }

        void addAssign(int root, int from) {
            if (isFull()) {
                return;
            }
            order[assigns + processes] = Agenda.ASSIGNS + assigns;
            assignRoot[assigns] = root;
            assignFrom[assigns] = from;
            assignTo[assigns] = code.lefts;
            for (int k = from; k < code.lefts; k++) {
                Signal net = signals[code.leftSignal[k]];
                code.driverOnes[k] = 0;
                code.driverUnknown[k] = -1;
                code.driverNext[k] = net.driver;
                net.driver = k;
            }
            for (int k = code.first[root]; k <= root; k++) {
                int read = signalRead(k);
                if (read >= 0) {
                    readers[read * SET_LONGS + assigns / 64] |= 1L << assigns % 64;
                }
            }
            assigns++;
        }

        /** Which VARIABLE or NET a node reads, -1: none. */
        int signalRead(int node) {
            switch (code.op[node]) {
                case Code.WHOLE:
                case Code.BIT:
                case Code.WORD:
                    return code.arg[node];
                case Code.PART:
                    return code.arg[node] / 64;
                default:
                    return -1;
            }
        }

        int nameLength(int v) {
            int bytes = signals[v].bytes;
            int scope = signals[v].scope;
            for (int k = 0; k < MOST_DEEP && scope > 0; k++) {
                bytes += scopeBytes[scope] + 1;
                scope = scopeAbove[scope];
            }
            return bytes;
        }

        int nameByte(int v, int i) {
            int start = nameLength(v) - signals[v].bytes;
            if (i >= start) {
                return text[signals[v].place + i - start];
            }
            int scope = signals[v].scope;
            for (int k = 0; k < MOST_DEEP && i < start; k++) {
                if (i == start - 1) {
                    return '.';
                }
                start -= scopeBytes[scope] + 1;
                if (i >= start) {
                    return text[scopePlace[scope] + i - start];
                }
                scope = scopeAbove[scope];
            }
            return '.';
        }
    }

    /** Works out EXPRS: a bit is 1 or x where ones has it, x or z where unknown has it. */
    private static final class Worth {
        /** DEPTH is at most 40, and no level of it leaves more than a dozen operands open. */
        private static final int MOST_OPEN = 1024;
        /** No number that a bit or a word can have. */
        static final long NOWHERE = Long.MIN_VALUE;

        private final long[] ones = new long[MOST_OPEN];
        private final long[] unknown = new long[MOST_OPEN];
        private int top;
        private Circuit circuit;
        private Code code;
        long now;

        void work(Circuit of, int root) {
            circuit = of;
            code = of.code;
            top = 0;
            for (int k = code.first[root]; k <= root; k++) {
                int op = code.op[k];
                if (op >= Code.CONSTANT) {
                    special(k, op);
                    widen(k);
                } else if (op >= Code.UNARY) {
                    unary(k, op - Code.UNARY);
                } else if (op == '?') {
                    choose(k);
                } else {
                    binary(k, op);
                }
            }
        }

        long ones() {
            return ones[0];
        }

        long unknown() {
            return unknown[0];
        }

        boolean isTrue() {
            return truth(0) == 1;
        }

        /** The number that was worked out, with its sign if it has one; NOWHERE with x or z. */
        long index(int root) {
            return indexAt(0, code.given[root]);
        }

        private long indexAt(int at, int shape) {
            if (unknown[at] != 0) {
                return NOWHERE;
            }
            if ((shape & Code.SIGNED) != 0) {
                return asSigned(ones[at], shape & Code.WIDTH);
            }
            return ones[at] < 0 ? NOWHERE : ones[at];
        }

        private void push(long someOnes, long someUnknown) {
            if (top < MOST_OPEN) {
                ones[top] = someOnes;
                unknown[top] = someUnknown;
                top++;
            }
        }

        private void put(long someOnes, long someUnknown, long all) {
            ones[top - 1] = someOnes & all;
            unknown[top - 1] = someUnknown & all;
        }

        /** 0, 1, or x if it is 2, brought to the CONTEXT's WIDTH. */
        private void putBit(int k, int bit) {
            put(bit == 0 ? 0 : 1, bit == 2 ? 1 : 0, 1);
            widen(k);
        }

        private void widen(int k) {
            int have = code.own[k] & Code.WIDTH;
            int want = code.given[k] & Code.WIDTH;
            if (want > have && (code.given[k] & Code.SIGNED) != 0) {
                put(asSigned(ones[top - 1], have), asSigned(unknown[top - 1], have), mask(want));
            }
        }

        private void special(int k, int op) {
            int arg = code.arg[k];
            switch (op) {
                case Code.CONSTANT:
                    push(code.ones[arg], code.unknown[arg]);
                    break;
                case Code.WHOLE:
                    pushPart(circuit.signals[arg].cell, 0, mask(64));
                    break;
                case Code.PART:
                    pushPart(circuit.signals[arg / 64].cell, arg % 64,
                            mask(code.own[k] & Code.WIDTH));
                    break;
                case Code.NOW:
                    push(now, 0);
                    break;
                case Code.BIT:
                case Code.WORD:
                    pick(circuit.signals[arg], takeIndex(k));
                    break;
                case Code.CONSTANT_BIT:
                    int bit = within(takeIndex(k), 0, 32);
                    push(bit < 0 ? 1 : code.ones[arg] >>> bit & 1, bit < 0 ? 1 : 0);
                    break;
                case Code.JOIN:
                    top--;
                    int shift = code.given[k - 1] & Code.WIDTH;
                    put(ones[top - 1] << shift | ones[top], unknown[top - 1] << shift | unknown[top],
                            mask(64));
                    break;
                case Code.COPIES:
                    copy(arg, code.given[k - 1] & Code.WIDTH);
                    break;
                default:
                    break;
            }
        }

        private long takeIndex(int k) {
            top--;
            return indexAt(top, code.given[k - 1]);
        }

        private void pushPart(int cell, int low, long all) {
            push(circuit.ones[cell] >>> low & all, circuit.unknown[cell] >>> low & all);
        }

        private void pick(Signal signal, long index) {
            if (signal.words > 0) {
                int word = within(index, signal.wordLow, signal.words);
                if (word < 0) {
                    push(mask(signal.width), mask(signal.width));
                } else {
                    pushPart(signal.cell + word, 0, mask(64));
                }
                return;
            }
            int bit = within(index, signal.low, signal.width);
            if (bit < 0) {
                push(1, 1);
            } else {
                pushPart(signal.cell, bit, 1);
            }
        }

        private void copy(int copies, int width) {
            long someOnes = ones[top - 1];
            long someUnknown = unknown[top - 1];
            for (int k = 1; k < copies; k++) {
                put(ones[top - 1] << width | someOnes, unknown[top - 1] << width | someUnknown,
                        mask(64));
            }
        }

        /** 1 TRUE, 0 FALSE, else 2. */
        private int truth(int at) {
            if ((ones[at] & ~unknown[at]) != 0) {
                return 1;
            }
            return unknown[at] == 0 ? 0 : 2;
        }

        private static int opposite(int bit) {
            return bit == 2 ? 2 : 1 - bit;
        }

        private void unary(int k, int sign) {
            long all = mask(code.given[k - 1] & Code.WIDTH);
            long o = ones[top - 1];
            long u = unknown[top - 1];
            switch (sign) {
                case '+':
                    break;
                case '-':
                    put(u == 0 ? -o : -1, u == 0 ? 0 : -1, all);
                    break;
                case '~':
                    put(~o | u, u, all);
                    break;
                case '!':
                    putBit(k, opposite(truth(top - 1)));
                    break;
                case '&':
                case Tokens.NAND:
                    int every = (~o & ~u & all) != 0 ? 0 : u != 0 ? 2 : 1;
                    putBit(k, sign == '&' ? every : opposite(every));
                    break;
                case '|':
                case Tokens.NOR:
                    int any = truth(top - 1);
                    putBit(k, sign == '|' ? any : opposite(any));
                    break;
                default:
                    int odd = u != 0 ? 2 : Long.bitCount(o) & 1;
                    putBit(k, sign == '^' ? odd : opposite(odd));
                    break;
            }
        }

        private void choose(int k) {
            top -= 2;
            long all = mask(code.given[k] & Code.WIDTH);
            int truth = truth(top - 1);
            if (truth < 2) {
                int taken = truth == 1 ? top : top + 1;
                put(ones[taken], unknown[taken], all);
                return;
            }
            long same = ~(ones[top] ^ ones[top + 1]) & ~unknown[top] & ~unknown[top + 1];
            put(ones[top] & same | ~same, ~same, all);
        }

        private void binary(int k, int op) {
            top--;
            long o = ones[top - 1];
            long u = unknown[top - 1];
            long all = mask(code.given[k] & Code.WIDTH);
            switch (Code.level(op)) {
                case 1:
                case 2:
                    putBit(k, joined(op, truth(top - 1), truth(top)));
                    break;
                case 3:
                    long one = o & ~u | ones[top] & ~unknown[top];
                    long some = o | u | ones[top] | unknown[top];
                    put(some, some & ~one, all);
                    break;
                case 4:
                    long odd = op == '^' ? o ^ ones[top] : ~(o ^ ones[top]);
                    put(odd | u | unknown[top], u | unknown[top], all);
                    break;
                case 5:
                    long full = (o | u) & (ones[top] | unknown[top]);
                    put(full, full & (u | unknown[top]), all);
                    break;
                case 6:
                    putBit(k, compared(op));
                    break;
                case 7:
                    putBit(k, (u | unknown[top]) != 0 ? 2 : ordered(op, code.given[k - 1]));
                    break;
                case 8:
                    shift(op, code.given[k]);
                    break;
                default:
                    boolean zero = ones[top] == 0 && (op == '/' || op == '%');
                    boolean known = (u | unknown[top]) == 0 && !zero;
                    put(known ? reckoned(op, code.given[k]) : -1, known ? 0 : -1, all);
                    break;
            }
        }

        private static int joined(int op, int one, int other) {
            int deciding = op == Tokens.BOTH ? 0 : 1;
            if (one == deciding || other == deciding) {
                return deciding;
            }
            return one == 2 || other == 2 ? 2 : 1 - deciding;
        }

        private int compared(int op) {
            long some = unknown[top - 1] | unknown[top];
            long differing = ones[top - 1] ^ ones[top];
            if (op == Tokens.SAME || op == Tokens.NOT_SAME) {
                boolean same = differing == 0 && unknown[top - 1] == unknown[top];
                return same == (op == Tokens.SAME) ? 1 : 0;
            }
            int equal = (differing & ~some) != 0 ? 0 : some != 0 ? 2 : 1;
            return op == Tokens.EQUAL ? equal : opposite(equal);
        }

        private int ordered(int op, int shape) {
            long one = ones[top - 1];
            long other = ones[top];
            int order = isBelow(one, other) ? -1 : one == other ? 0 : 1;
            if ((shape & Code.SIGNED) != 0) {
                order = Long.compare(asSigned(one, shape & Code.WIDTH),
                        asSigned(other, shape & Code.WIDTH));
            }
            switch (op) {
                case '<':
                    return order < 0 ? 1 : 0;
                case '>':
                    return order > 0 ? 1 : 0;
                case Tokens.AT_MOST:
                    return order <= 0 ? 1 : 0;
                default:
                    return order >= 0 ? 1 : 0;
            }
        }

        /** Whether the one is less, both without sign. */
        private static boolean isBelow(long one, long other) {
            return one + Long.MIN_VALUE < other + Long.MIN_VALUE;
        }

        private void shift(int op, int shape) {
            int width = shape & Code.WIDTH;
            long all = mask(width);
            if (unknown[top] != 0) {
                put(-1, -1, all);
                return;
            }
            boolean far = ones[top] < 0 || ones[top] >= width;
            int by = far ? 0 : (int) ones[top];
            boolean signed = op == Tokens.DOWN_SIGNED && (shape & Code.SIGNED) != 0;
            long o = ones[top - 1];
            long u = unknown[top - 1];
            if (signed) {
                int places = far ? 63 : by;
                put(asSigned(o, width) >> places, asSigned(u, width) >> places, all);
            } else if (far) {
                put(0, 0, all);
            } else if (op == Tokens.UP || op == Tokens.UP_SIGNED) {
                put(o << by, u << by, all);
            } else {
                put(o >>> by, u >>> by, all);
            }
        }

        /** + - * / % of numbers without x and z; the right one is not 0 for / and %. */
        private long reckoned(int op, int shape) {
            long one = ones[top - 1];
            long other = ones[top];
            boolean signed = (shape & Code.SIGNED) != 0;
            switch (op) {
                case '+':
                    return one + other;
                case '-':
                    return one - other;
                case '*':
                    return one * other;
                default:
                    break;
            }
            if (signed) {
                one = asSigned(one, shape & Code.WIDTH);
                other = asSigned(other, shape & Code.WIDTH);
            }
            if (other == 0) {
                return 0;
            }
            long quotient = signed ? one / other : quotient(one, other);
            return op == '/' ? quotient : one - quotient * other;
        }

        /** Both without sign, the divisor not 0. */
        private static long quotient(long one, long other) {
            if (other < 0) {
                return isBelow(one, other) ? 0 : 1;
            }
            if (other == 0) {
                return 0;
            }
            long near = (one >>> 1) / other << 1;
            return isBelow(one - near * other, other) ? near : near + 1;
        }
    }

    /** Knows the NAMES and makes code; while it is off, a TEXT is only read for its form. */
    private static final class Maker {
        // What a NAME is wanted for.
        static final int READ = 0;
        static final int VARIABLES = 1;
        static final int NETS = 2;
        // What a NAME is; a parameter that was linked is known only from its own place on.
        private static final int PARAMETER = 0;
        private static final int SIGNAL = 1;
        private static final int INSTANCE = 2;
        private static final int GIVEN = 3;
        private static final int LEFT_OUT = 4;
        /** A parameter or localparam has five TOKENS. */
        private static final int MOST_SYMBOLS = MOST_TOKENS / 5 + MOST_SIGNALS + MOST_INSTANCES;

        private final Tokens tokens;
        private final Faults faults;
        private final Worth worth = new Worth();
        private Circuit circuit;
        private Code code;
        int scope;
        boolean on;
        /** Whether the last CONSTANT is one, and what stands for it in another one if not. */
        boolean sound;
        private int flaw;
        int leftFrom;
        int leftWidth;
        private final int[] head = new int[Tokens.MOST_NAMES];
        private final int[] symbolName = new int[MOST_SYMBOLS];
        private final int[] symbolScope = new int[MOST_SYMBOLS];
        private final int[] symbolSort = new int[MOST_SYMBOLS];
        private final int[] symbolWorth = new int[MOST_SYMBOLS];
        /** The symbol of the same NAME that was known before. */
        private final int[] symbolBelow = new int[MOST_SYMBOLS];
        int symbols;

        Maker(Tokens someTokens, Faults someFaults) {
            tokens = someTokens;
            faults = someFaults;
        }

        void open(Circuit made) {
            circuit = made;
            code = made.code;
            scope = 0;
            symbols = 0;
            Arrays.fill(head, 0, tokens.names, -1);
        }

        void note(int number, int token) {
            if (on) {
                faults.note(number, tokens.place[token]);
            }
        }

        int find(int token, int where) {
            int symbol = head[tokens.info[token]];
            while (symbol >= 0 && symbolScope[symbol] != where) {
                symbol = symbolBelow[symbol];
            }
            return symbol;
        }

        private int known(int token) {
            int symbol = find(token, scope);
            return symbol >= 0 && symbolSort[symbol] < GIVEN ? symbol : -1;
        }

        private void add(int token, int where, int sort, int worthOf) {
            if (symbols < MOST_SYMBOLS) {
                int name = tokens.info[token];
                symbolName[symbols] = name;
                symbolScope[symbols] = where;
                symbolSort[symbols] = sort;
                symbolWorth[symbols] = worthOf;
                symbolBelow[symbols] = head[name];
                head[name] = symbols;
                symbols++;
            }
        }

        void forgetFrom(int mark) {
            for (int k = symbols - 1; k >= mark; k--) {
                head[symbolName[k]] = symbolBelow[k];
            }
            symbols = mark;
        }

        /** A linked parameter is known from now on; answers whether it has got its value so. */
        boolean isGiven(int token) {
            int symbol = on ? find(token, scope) : -1;
            if (symbol < 0 || symbolSort[symbol] != GIVEN) {
                return false;
            }
            symbolSort[symbol] = PARAMETER;
            return true;
        }

        void give(int token, int where, boolean empty, long value) {
            add(token, where, empty ? LEFT_OUT : GIVEN, (int) value);
        }

        void parameter(int token, int first) {
            if (!on) {
                return;
            }
            int value = (int) constant(first, true);
            int symbol = find(token, scope);
            if (symbol < 0) {
                add(token, scope, PARAMETER, value);
            } else if (symbolSort[symbol] == LEFT_OUT) {
                symbolSort[symbol] = PARAMETER;
                symbolWorth[symbol] = value;
            } else {
                note(2, token);
            }
        }

        void nameInstance(int token) {
            if (known(token) >= 0) {
                note(2, token);
            }
            add(token, scope, INSTANCE, 0);
        }

        void declare(int token, Signal mould) {
            if (!on) {
                return;
            }
            if (known(token) >= 0) {
                note(2, token);
            }
            if (circuit.signalCount >= MOST_SIGNALS || circuit.words + mould.words > MOST_WORDS) {
                note(5, token);
            }
            faults.settle();
            add(token, scope, SIGNAL, circuit.signalCount);
            circuit.addSignal(mould, scope, tokens.place[token],
                    tokens.nameLength[tokens.info[token]]);
        }

        /** The port of an instance that a link names and that is not linked yet; null: none. */
        Signal port(int token, int where) {
            int symbol = find(token, where);
            if (symbol >= 0 && symbolSort[symbol] == SIGNAL) {
                Signal port = circuit.signals[symbolWorth[symbol]];
                if (!port.linked) {
                    port.linked = true;
                    return port;
                }
            }
            note(2, token);
            return null;
        }

        void checkRoom(int token) {
            if (on && circuit.isFull()) {
                note(5, token);
            }
        }

        /** The CONSTANT that the last EXPR is, its code being taken away. */
        long constant(int first, boolean isParameter) {
            if (!on) {
                return 0;
            }
            int root = code.root();
            lookAt(root);
            long value = 0;
            if (flaw == Code.FOREIGN) {
                note(3, first);
            } else if (sound) {
                int own = code.own[root];
                code.shape(root, Math.max(own & Code.WIDTH, 32) | own & Code.SIGNED);
                worth.work(circuit, root);
                value = asSigned(worth.ones(), code.given[root] & Code.WIDTH);
                if (worth.unknown() != 0 || !isParameter && value != (int) value) {
                    note(4, first);
                    sound = false;
                }
            }
            code.drop();
            return value;
        }

        /** Whether an EXPR can be worked out as a CONSTANT. */
        private void lookAt(int root) {
            flaw = Code.UNKNOWN;
            sound = !faults.hard;
            for (int k = code.first[root]; k <= root; k++) {
                int op = code.op[k];
                if (op == Code.FOREIGN || op == Code.NOW || circuit.signalRead(k) >= 0) {
                    flaw = Code.FOREIGN;
                    sound = false;
                } else if ((code.own[k] & Code.WIDTH) > 64) {
                    sound = false;
                }
            }
        }

        void checkCopies(long copies, int first) {
            if (on && sound && copies < 1) {
                note(4, first);
            }
        }

        private void leaf(int op, int arg, int shape) {
            code.node(op, arg, code.nodes, shape);
        }

        void number(int token) {
            if (on) {
                tokens.number(tokens.place[token]);
                int shape = tokens.signed ? tokens.width | Code.SIGNED : tokens.width;
                code.constant(tokens.ones, tokens.unknown, shape);
            }
        }

        void now() {
            if (on) {
                leaf(Code.NOW, 0, 64);
            }
        }

        void readWhole(int token) {
            if (!on) {
                return;
            }
            int symbol = known(token);
            if (symbol < 0) {
                note(2, token);
                leaf(Code.UNKNOWN, 0, 1);
            } else if (symbolSort[symbol] == PARAMETER) {
                code.constant(symbolWorth[symbol] & 0xffffffffL, 0, 32 | Code.SIGNED);
            } else if (isMemory(symbol) || symbolSort[symbol] == INSTANCE) {
                note(3, token);
                leaf(Code.FOREIGN, 0, 1);
            } else {
                int v = symbolWorth[symbol];
                leaf(Code.WHOLE, v, circuit.signals[v].shape());
            }
        }

        private boolean isMemory(int symbol) {
            return symbolSort[symbol] == SIGNAL && circuit.signals[symbolWorth[symbol]].words > 0;
        }

        /** NAME[E]: E is the last EXPR. */
        void readBit(int token) {
            if (!on) {
                return;
            }
            int from = code.first[code.root()];
            int symbol = known(token);
            if (symbol < 0) {
                note(2, token);
                code.node(Code.UNKNOWN, 0, from, 1);
            } else if (symbolSort[symbol] == PARAMETER) {
                code.constantBit(symbolWorth[symbol] & 0xffffffffL, from);
            } else if (symbolSort[symbol] == INSTANCE) {
                note(3, token);
                code.node(Code.FOREIGN, 0, from, 1);
            } else {
                int v = symbolWorth[symbol];
                boolean memory = isMemory(symbol);
                code.node(memory ? Code.WORD : Code.BIT, v, from,
                        memory ? circuit.signals[v].width : 1);
            }
        }

        void readPart(int token, long high, long low, int first) {
            if (!on) {
                return;
            }
            int symbol = known(token);
            if (symbol < 0) {
                note(2, token);
                leaf(Code.UNKNOWN, 0, 1);
            } else if (isMemory(symbol) || symbolSort[symbol] == INSTANCE) {
                note(3, token);
                leaf(Code.FOREIGN, 0, 1);
            } else if (!sound) {
                leaf(flaw, 0, 1);
            } else if (symbolSort[symbol] == PARAMETER) {
                int part = part(0, 32, high, low, first);
                code.constant(symbolWorth[symbol] >>> part & mask(partWidth(high, low)), 0,
                        partWidth(high, low));
            } else {
                Signal signal = circuit.signals[symbolWorth[symbol]];
                int part = part(signal.low, signal.width, high, low, first);
                leaf(Code.PART, symbolWorth[symbol] * 64 + part, partWidth(high, low));
            }
        }

        /** Where a part begins, 0 if it is not there. */
        private int part(int lowest, int width, long high, long low, int first) {
            int from = within(low, lowest, width);
            if (high < low || from < 0 || within(high, lowest, width) < 0) {
                note(4, first);
                return 0;
            }
            return from;
        }

        /** Kept in bounds where the part itself is not there. */
        private static int partWidth(long high, long low) {
            return (int) Math.max(1, Math.min(64, high - low + 1));
        }

        void binary(int op) {
            if (!on) {
                return;
            }
            int right = code.root();
            int left = Math.max(0, code.first[right] - 1);
            int level = Code.level(op);
            int shape = 1;
            if (level == 8) {
                shape = code.own[left];
            } else if (level == 9 || level == 10 || level >= 3 && level <= 5) {
                shape = Code.wider(code.own[left], code.own[right]);
            }
            code.node(op, 0, code.first[left], shape);
        }

        void unary(int sign) {
            if (on) {
                int root = code.root();
                boolean keeps = sign == '+' || sign == '-' || sign == '~';
                code.node(Code.UNARY + sign, 0, code.first[root], keeps ? code.own[root] : 1);
            }
        }

        void choose() {
            if (on) {
                int last = code.root();
                int middle = Math.max(0, code.first[last] - 1);
                int condition = Math.max(0, code.first[middle] - 1);
                code.node('?', 0, code.first[condition],
                        Code.wider(code.own[middle], code.own[last]));
            }
        }

        /** What stands alone in { }, or first. */
        void first() {
            if (on) {
                int root = code.root();
                code.node(Code.FIRST, 0, code.first[root], code.own[root] & Code.WIDTH);
            }
        }

        void join() {
            if (on) {
                int right = code.root();
                int left = Math.max(0, code.first[right] - 1);
                int width = (code.own[left] & Code.WIDTH) + (code.own[right] & Code.WIDTH);
                code.node(Code.JOIN, 0, code.first[left], Math.min(width, 65));
            }
        }

        void copies(long copies) {
            if (on) {
                int root = code.root();
                long width = copies * (code.own[root] & Code.WIDTH);
                code.node(Code.COPIES, (int) Math.max(1, Math.min(64, copies)), code.first[root],
                        (int) Math.max(1, Math.min(width, 65)));
            }
        }

        void checkBraces(int token) {
            if (on && (code.own[code.root()] & Code.WIDTH) > 64) {
                noteWide(token);
            }
        }

        void checkLeftBraces(int token, int widthBefore) {
            if (on && leftWidth - widthBefore > 64) {
                noteWide(token);
            }
        }

        private void noteWide(int token) {
            if (!faults.hard) {
                faults.noteWide(tokens.place[token]);
            }
        }

        void rename(boolean signed) {
            if (on) {
                int root = code.root();
                int width = code.own[root] & Code.WIDTH;
                code.node(Code.RENAMED, 0, code.first[root], signed ? width | Code.SIGNED : width);
            }
        }

        void beginLeft() {
            if (on) {
                leftFrom = code.lefts;
                leftWidth = 0;
            }
        }

        private void left(int signal, int way, int index, int width) {
            code.left(signal, way, index, width);
            leftWidth += width;
        }

        /** The VARIABLE or NET that a LEFT names, -1 if it is not of the right kind. */
        private int target(int token, int use, boolean indexed) {
            int symbol = known(token);
            if (symbol < 0) {
                note(2, token);
                return -1;
            }
            if (symbolSort[symbol] == SIGNAL) {
                Signal signal = circuit.signals[symbolWorth[symbol]];
                boolean variable = signal.sort == Signal.VARIABLE;
                if (variable == (use == VARIABLES) && (indexed || signal.words == 0)) {
                    return symbolWorth[symbol];
                }
            }
            note(3, token);
            return -1;
        }

        void leftWhole(int token, int use) {
            int v = on ? target(token, use, false) : -1;
            if (v >= 0) {
                left(v, Code.WHOLE, 0, circuit.signals[v].width);
            }
        }

        /** NAME[E] as a LEFT: E is the last EXPR. */
        void leftBit(int token, int use, int first) {
            if (!on) {
                return;
            }
            long index = use == NETS ? constant(first, false) : 0;
            int root = use == NETS ? 0 : plain();
            int v = target(token, use, true);
            if (v < 0 || use == NETS && !sound) {
                return;
            }
            Signal signal = circuit.signals[v];
            if (use == NETS) {
                int bit = within(index, signal.low, signal.width);
                left(v, bit < 0 ? Code.NOWHERE : Code.PART, Math.max(0, bit), 1);
            } else if (signal.words > 0) {
                left(v, Code.WORD, root, signal.width);
            } else {
                left(v, Code.BIT, root, 1);
            }
        }

        void leftPart(int token, int use, long high, long low, int first) {
            int v = on ? target(token, use, false) : -1;
            if (v >= 0 && sound) {
                Signal signal = circuit.signals[v];
                int part = part(signal.low, signal.width, high, low, first);
                left(v, Code.PART, part, partWidth(high, low));
            }
        }

        /** The last EXPR as it is by itself. */
        int plain() {
            if (!on) {
                return 0;
            }
            int root = code.root();
            code.shape(root, code.own[root]);
            return root;
        }

        /** The last EXPR as it is assigned to the last LEFT. */
        int assigned() {
            if (!on || faults.isFound()) {
                return 0;
            }
            int root = code.root();
            int own = code.own[root];
            code.shape(root, Math.max(own & Code.WIDTH, leftWidth) | own & Code.SIGNED);
            return root;
        }

        void assign() {
            int root = assigned();
            if (on && !faults.isFound()) {
                circuit.addAssign(root, leftFrom);
            }
        }

        void readPort(int token, int where) {
            int symbol = on ? find(token, where) : -1;
            if (symbol >= 0) {
                int v = symbolWorth[symbol];
                leaf(Code.WHOLE, v, circuit.signals[v].shape());
            }
        }

        void leftPort(int token, int where) {
            int symbol = on ? find(token, where) : -1;
            if (symbol >= 0) {
                int v = symbolWorth[symbol];
                left(v, Code.WHOLE, 0, circuit.signals[v].width);
            }
        }

        /** An EVENT to wait for: -1 for any bit, -2 for one that is not there. */
        void await(int edge, int token, boolean indexed, long index) {
            if (!on) {
                return;
            }
            int symbol = known(token);
            if (symbol < 0) {
                note(2, token);
            } else if (symbolSort[symbol] != SIGNAL || isMemory(symbol)) {
                note(3, token);
            } else {
                Signal signal = circuit.signals[symbolWorth[symbol]];
                int bit = edge == 0 ? -1 : 0;
                if (indexed) {
                    bit = within(index, signal.low, signal.width);
                    bit = bit < 0 ? -2 : bit;
                }
                emit(edge);
                emit(symbolWorth[symbol]);
                emit(bit);
            }
        }

        void emit(int what) {
            if (on) {
                code.emit(what);
            }
        }

        int here() {
            return code.lines;
        }

        int nodes() {
            return code.nodes;
        }

        int lefts() {
            return code.lefts;
        }

        void patch(int at, int what) {
            if (on && at < code.lines) {
                code.line[at] = what;
            }
        }

        int line(int at) {
            return on && at < code.lines ? code.line[at] : 0;
        }

        int counter() {
            if (on && code.counters < Code.MOST_COUNTERS - 1) {
                code.counters++;
            }
            return code.counters;
        }

        int shapeOf(int root) {
            return on ? code.own[root] : 0;
        }

        void giveShape(int root, int shape) {
            if (on) {
                code.shape(root, shape);
            }
        }
    }

    /** Reads EXPRS, LEFTS and STATEMENTS, and has the maker make code of them. */
    private static final class Reader {
        /** DEPTH is at most 40, and each level of it has at most ten operators waiting. */
        private static final int MOST_WAITING = 1024;

        private final Tokens tokens;
        private final Faults faults;
        private final Maker maker;
        private final int[] waiting = new int[MOST_WAITING];
        private int waitingCount;
        int at;
        private int depth;
        /** The ends of the last RANGE or part. */
        long high;
        long low;

        Reader(Tokens someTokens, Faults someFaults, Maker someMaker) {
            tokens = someTokens;
            faults = someFaults;
            maker = someMaker;
        }

        void begin() {
            at = 0;
            depth = 0;
            waitingCount = 0;
        }

        void fail() {
            faults.refuse(1, tokens.place[at]);
        }

        int kind() {
            return tokens.kind[at];
        }

        boolean sees(int kind) {
            return tokens.kind[at] == kind;
        }

        int take(int kind) {
            if (tokens.kind[at] != kind || depth > MOST_DEPTH || at >= tokens.size - 1) {
                fail();
            }
            at++;
            return at - 1;
        }

        boolean again(int kind) {
            if (!sees(kind)) {
                return false;
            }
            take(kind);
            return true;
        }

        int open(int kind) {
            int token = take(kind);
            depth++;
            return token;
        }

        void close(int kind) {
            take(kind);
            depth--;
        }

        /** The TOKEN behind the brackets that open at a TOKEN. */
        int behind(int token) {
            int open = 0;
            for (int k = token; k < tokens.size; k++) {
                int kind = tokens.kind[k];
                if (kind == '(' || kind == '[' || kind == '{') {
                    open++;
                } else if (kind == ')' || kind == ']' || kind == '}') {
                    open--;
                    if (open == 0) {
                        return k + 1;
                    }
                }
            }
            return token;
        }

        /** EXPR. */
        void choice() {
            int base = waitingCount;
            operand();
            for (int k = 0; k < MOST_INPUT && Code.level(tokens.kind[at]) > 0; k++) {
                int sign = tokens.kind[at];
                take(sign);
                settle(base, Code.level(sign));
                await(sign);
                operand();
            }
            settle(base, 0);
            if (sees('?')) {
                open('?');
                choice();
                take(':');
                choice();
                depth--;
                maker.choose();
            }
        }

        private void await(int sign) {
            if (waitingCount < MOST_WAITING) {
                waiting[waitingCount] = sign;
                waitingCount++;
            }
        }

        /** Operators that bind as tightly as the next one, or more, have their operands. */
        private void settle(int base, int level) {
            while (waitingCount > base && Code.level(waiting[waitingCount - 1]) >= level) {
                waitingCount--;
                maker.binary(waiting[waitingCount]);
            }
        }

        private static boolean isUnary(int kind) {
            switch (kind) {
                case '+':
                case '-':
                case '!':
                case '~':
                case '&':
                case '|':
                case '^':
                case Tokens.NAND:
                case Tokens.NOR:
                case Tokens.XNOR:
                    return true;
                default:
                    return false;
            }
        }

        private void operand() {
            int base = waitingCount;
            for (int k = 0; k <= MOST_DEPTH + 1 && isUnary(tokens.kind[at]); k++) {
                await(tokens.kind[at]);
                open(tokens.kind[at]);
            }
            primary();
            while (waitingCount > base) {
                waitingCount--;
                depth--;
                maker.unary(waiting[waitingCount]);
            }
        }

        void primary() {
            int kind = tokens.kind[at];
            switch (kind) {
                case Tokens.NUMBER:
                    maker.number(take(kind));
                    break;
                case Tokens.NAME:
                    chosen(Maker.READ);
                    break;
                case '{':
                    braces();
                    break;
                case Tokens.TIME:
                    take(kind);
                    maker.now();
                    break;
                case Tokens.AS_SIGNED:
                case Tokens.AS_UNSIGNED:
                    take(kind);
                    inBrackets();
                    maker.rename(kind == Tokens.AS_SIGNED);
                    break;
                default:
                    inBrackets();
                    break;
            }
        }

        private void inBrackets() {
            open('(');
            choice();
            close(')');
        }

        private void braces() {
            int token = open('{');
            int first = at;
            choice();
            if (sees('{')) {
                tokens.info[token] = 1;
                long copies = maker.constant(first, false);
                maker.checkCopies(copies, first);
                open('{');
                choice();
                joined();
                close('}');
                maker.copies(copies);
            } else {
                joined();
            }
            close('}');
            maker.checkBraces(token);
        }

        private void joined() {
            maker.first();
            for (int k = 0; k < MOST_INPUT && again(','); k++) {
                choice();
                maker.join();
            }
        }

        /** NAME, with an index or a part or none, in an EXPR or as a LEFT. */
        private void chosen(int use) {
            int name = take(Tokens.NAME);
            if (!sees('[')) {
                if (use == Maker.READ) {
                    maker.readWhole(name);
                } else {
                    maker.leftWhole(name, use);
                }
                return;
            }
            open('[');
            int first = at;
            choice();
            if (sees(':')) {
                ends(first);
                if (use == Maker.READ) {
                    maker.readPart(name, high, low, first);
                } else {
                    maker.leftPart(name, use, high, low, first);
                }
            } else if (use == Maker.READ) {
                maker.readBit(name);
            } else {
                maker.leftBit(name, use, first);
            }
            close(']');
        }

        /** The first end has been read; the ends go to high and low. */
        private void ends(int first) {
            long end = maker.constant(first, false);
            boolean sound = maker.sound;
            take(':');
            int second = at;
            choice();
            low = maker.constant(second, false);
            high = end;
            maker.sound = maker.sound && sound;
        }

        /** RANGE; answers its first EXPR's TOKEN. */
        int range() {
            open('[');
            int first = at;
            choice();
            ends(first);
            close(']');
            return first;
        }

        void left(int use) {
            if (!sees('{')) {
                chosen(use);
                return;
            }
            int widthBefore = maker.leftWidth;
            int token = open('{');
            left(use);
            for (int k = 0; k < MOST_INPUT && again(','); k++) {
                left(use);
            }
            close('}');
            maker.checkLeftBraces(token, widthBefore);
        }

        /** The EXPR of a link to an output, which must have the form of a LEFT. */
        void outward() {
            if (!isLeft()) {
                maker.note(3, at);
                choice();
            } else if (sees(Tokens.NAME)) {
                chosen(Maker.NETS);
            } else {
                int widthBefore = maker.leftWidth;
                int token = open('{');
                outward();
                for (int k = 0; k < MOST_INPUT && again(','); k++) {
                    outward();
                }
                close('}');
                maker.checkLeftBraces(token, widthBefore);
            }
        }

        private boolean isLeft() {
            int behind = at;
            if (sees(Tokens.NAME)) {
                behind = tokens.kind[at + 1] == '[' ? behind(at + 1) : at + 1;
            } else if (sees('{') && tokens.info[at] == 0) {
                behind = behind(at);
            }
            int kind = tokens.kind[behind];
            return behind > at && (kind == ',' || kind == '}' || kind == ')');
        }

        /** STATEMENT; inner is 1 if it stands in another one, else 0. */
        void statement(int inner) {
            depth += inner;
            maker.emit(Code.PAY);
            int kind = tokens.kind[at];
            switch (kind) {
                case ';':
                    take(';');
                    break;
                case Tokens.BEGIN:
                    block();
                    break;
                case '#':
                    delay();
                    statement(1);
                    break;
                case '@':
                    awaiting();
                    break;
                case Tokens.WAIT:
                    take(kind);
                    inBrackets();
                    maker.emit(Code.UNTIL);
                    maker.emit(maker.plain());
                    statement(1);
                    break;
                case Tokens.IF:
                    branches();
                    break;
                case Tokens.CASE:
                case Tokens.CASEZ:
                    cases(kind);
                    break;
                case Tokens.DISPLAY:
                case Tokens.WRITE:
                    show(kind);
                    break;
                case Tokens.FINISH:
                    take(kind);
                    take(';');
                    maker.emit(Code.FINISH);
                    break;
                case Tokens.NAME:
                case '{':
                    assignment();
                    break;
                default:
                    loop(kind);
                    break;
            }
            depth -= inner;
        }

        private void block() {
            open(Tokens.BEGIN);
            for (int k = 0; k < MOST_INPUT && !sees(Tokens.END_BLOCK); k++) {
                statement(1);
            }
            close(Tokens.END_BLOCK);
        }

        private void delay() {
            take('#');
            primary();
            maker.emit(Code.DELAY);
            maker.emit(maker.plain());
        }

        private void awaiting() {
            take('@');
            if (!sees('*')) {
                events();
                statement(1);
                return;
            }
            take('*');
            maker.emit(Code.STAR);
            maker.emit(maker.nodes());
            int hole = hole();
            statement(1);
            maker.patch(hole, maker.nodes());
        }

        /** A line that is filled in later. */
        private int hole() {
            int line = maker.here();
            maker.emit(0);
            return line;
        }

        private void events() {
            open('(');
            maker.emit(Code.AWAIT);
            int hole = hole();
            int events = 0;
            for (int k = 0; k < MOST_INPUT; k++) {
                int edge = again(Tokens.POSEDGE) ? 1 : again(Tokens.NEGEDGE) ? 2 : 0;
                int name = take(Tokens.NAME);
                boolean indexed = sees('[');
                long index = 0;
                if (indexed) {
                    open('[');
                    int first = at;
                    choice();
                    index = maker.constant(first, false);
                    close(']');
                }
                maker.await(edge, name, indexed, index);
                events++;
                if (!again(Tokens.OR)) {
                    break;
                }
            }
            close(')');
            maker.patch(hole, events);
        }

        /** Goes on with the next STATEMENT if the last EXPR is TRUE, else where the hole will say. */
        private int unless() {
            maker.emit(Code.UNLESS);
            maker.emit(maker.plain());
            return hole();
        }

        private void jump(int line) {
            maker.emit(Code.JUMP);
            maker.emit(line);
        }

        private void branches() {
            take(Tokens.IF);
            inBrackets();
            int other = unless();
            statement(1);
            if (again(Tokens.ELSE)) {
                maker.emit(Code.JUMP);
                int behind = hole();
                maker.patch(other, maker.here());
                statement(1);
                maker.patch(behind, maker.here());
            } else {
                maker.patch(other, maker.here());
            }
        }

        /**
         * PICK, 1 for casez, the EXPR, the line behind; then for each choice: the next choice's line
         * or 0, that of its STATEMENT, how many EXPRS (0: default), these. The EXPRS get their
         * shape when all are known.
         */
        private void cases(int kind) {
            open(kind);
            inBrackets();
            int root = maker.plain();
            maker.emit(Code.PICK);
            maker.emit(kind == Tokens.CASEZ ? 1 : 0);
            maker.emit(root);
            int behind = hole();
            int first = maker.here();
            int shape = maker.shapeOf(root);
            for (int k = 0; k < MOST_INPUT; k++) {
                int next = hole();
                int start = hole();
                shape = labels(shape);
                maker.patch(start, maker.here());
                statement(1);
                // The jumps behind the STATEMENTS are found again through one another.
                jump(maker.line(behind));
                maker.patch(behind, maker.here() - 1);
                if (sees(Tokens.ENDCASE)) {
                    break;
                }
                maker.patch(next, maker.here());
            }
            close(Tokens.ENDCASE);
            finish(root, first, behind, shape);
        }

        /** The EXPRS of a choice, or default; answers the shape of all so far. */
        private int labels(int shapeBefore) {
            int hole = hole();
            int shape = shapeBefore;
            int labels = 0;
            if (!again(Tokens.DEFAULT)) {
                for (int k = 0; k < MOST_INPUT; k++) {
                    choice();
                    int root = maker.plain();
                    maker.emit(root);
                    shape = Code.wider(shape, maker.shapeOf(root));
                    labels++;
                    if (!again(',')) {
                        break;
                    }
                }
            }
            take(':');
            maker.patch(hole, labels);
            return shape;
        }

        private void finish(int root, int first, int behind, int shape) {
            maker.giveShape(root, shape);
            int choice = first;
            for (int k = 0; k < MOST_INPUT && maker.on; k++) {
                for (int label = 0; label < maker.line(choice + 2); label++) {
                    maker.giveShape(maker.line(choice + 3 + label), shape);
                }
                choice = maker.line(choice);
                if (choice == 0) {
                    break;
                }
            }
            int jump = maker.line(behind);
            for (int k = 0; k < MOST_INPUT && jump > 0; k++) {
                int before = maker.line(jump);
                maker.patch(jump, maker.here());
                jump = before;
            }
            maker.patch(behind, maker.here());
        }

        private void loop(int kind) {
            switch (kind) {
                case Tokens.FOR:
                    countingLoop();
                    break;
                case Tokens.WHILE:
                    take(kind);
                    int test = maker.here();
                    inBrackets();
                    body(test, unless());
                    break;
                case Tokens.REPEAT:
                    take(kind);
                    inBrackets();
                    int counter = maker.counter();
                    maker.emit(Code.COUNT);
                    maker.emit(counter);
                    maker.emit(maker.plain());
                    int next = maker.here();
                    maker.emit(Code.NEXT);
                    maker.emit(counter);
                    body(next, hole());
                    break;
                default:
                    take(Tokens.FOREVER);
                    body(maker.here(), -1);
                    break;
            }
        }

        /** The STATEMENT of a loop, which costs 1 more each time, and the way back. */
        private void body(int back, int exit) {
            maker.emit(Code.PAY);
            statement(1);
            jump(back);
            if (exit >= 0) {
                maker.patch(exit, maker.here());
            }
        }

        private void countingLoop() {
            take(Tokens.FOR);
            open('(');
            int begin = loopAssignment();
            emitSet(begin, maker.leftFrom, maker.lefts());
            take(';');
            int test = maker.here();
            choice();
            int exit = unless();
            take(';');
            int step = loopAssignment();
            int from = maker.leftFrom;
            int to = maker.lefts();
            close(')');
            maker.emit(Code.PAY);
            statement(1);
            emitSet(step, from, to);
            jump(test);
            maker.patch(exit, maker.here());
        }

        /** NAME = EXPR of a for; answers the EXPR. */
        private int loopAssignment() {
            maker.beginLeft();
            int name = take(Tokens.NAME);
            take('=');
            maker.leftWhole(name, Maker.VARIABLES);
            choice();
            return maker.assigned();
        }

        private void assignment() {
            maker.beginLeft();
            left(Maker.VARIABLES);
            if (again(Tokens.AT_MOST)) {
                later();
            } else {
                take('=');
                if (sees('#') || sees('@')) {
                    held();
                } else {
                    choice();
                    emitSet(maker.assigned(), maker.leftFrom, maker.lefts());
                }
            }
            take(';');
        }

        private void emitSet(int root, int from, int to) {
            maker.emit(Code.SET);
            maker.emit(root);
            maker.emit(from);
            maker.emit(to);
        }

        /** A = # E R, A = @ R. */
        private void held() {
            maker.emit(Code.HOLD);
            int hole = hole();
            if (sees('#')) {
                delay();
            } else {
                take('@');
                events();
            }
            choice();
            maker.patch(hole, maker.assigned());
            maker.emit(Code.PUT);
            maker.emit(maker.leftFrom);
            maker.emit(maker.lefts());
        }

        private void later() {
            int delay = -1;
            if (again('#')) {
                primary();
                delay = maker.plain();
            } else if (sees('@')) {
                maker.note(3, take('@'));
                events();
            }
            choice();
            maker.emit(Code.AFTER);
            maker.emit(maker.assigned());
            maker.emit(maker.leftFrom);
            maker.emit(maker.lefts());
            maker.emit(delay);
        }

        private void show(int kind) {
            take(kind);
            maker.emit(Code.SHOW);
            maker.emit(kind == Tokens.DISPLAY ? 1 : 0);
            int hole = hole();
            int arguments = 0;
            if (sees('(')) {
                open('(');
                for (int k = 0; k < MOST_INPUT; k++) {
                    argument();
                    arguments++;
                    if (!again(',')) {
                        break;
                    }
                }
                close(')');
            }
            take(';');
            maker.patch(hole, arguments);
        }

        /** A STRING's place is told by a number below 0. */
        private void argument() {
            if (sees(Tokens.STRING)) {
                maker.emit(~tokens.place[take(Tokens.STRING)]);
            } else {
                choice();
                maker.emit(maker.plain());
            }
        }
    }

    /** Reads MODULES and their ITEMS, and puts their instances together to one circuit. */
    private static final class Builder {
        /** 'module', a NAME, ; and 'endmodule' have eighteen bytes. */
        private static final int MOST_MODULES = MOST_INPUT / 18 + 1;
        private static final int MOST_MEMORY = 4096;

        private final Tokens tokens = new Tokens();
        private final Faults faults;
        private final Maker maker;
        private final Reader reader;
        private Circuit circuit;
        /** What the next NAME is declared as. */
        private final Signal mould = new Signal();
        private final int[] moduleName = new int[MOST_MODULES];
        private final int[] moduleStart = new int[MOST_MODULES];
        private final int[] moduleEnd = new int[MOST_MODULES];
        private int modules;
        /** Which NAMES are instantiated as MODULES. */
        private final boolean[] instantiated = new boolean[Tokens.MOST_NAMES];
        /** For each instance that is open: where it is gone on behind it, and with what NAMES. */
        private final int[] backTo = new int[MOST_DEEP + 1];
        private final int[] scopeOutside = new int[MOST_DEEP + 1];
        private final int[] symbolsOutside = new int[MOST_DEEP + 1];
        private int deep;
        private int instances;
        private int tokensDone;

        Builder(Faults someFaults) {
            faults = someFaults;
            maker = new Maker(tokens, someFaults);
            reader = new Reader(tokens, someFaults, maker);
        }

        /** Cuts a TEXT and looks whether its form is right. */
        void check(Circuit made, int length) {
            circuit = made;
            faults.forget();
            tokens.cut(made.text, length);
            Arrays.fill(instantiated, 0, tokens.names, false);
            maker.open(made);
            maker.on = false;
            reader.begin();
            modules = 0;
            for (int k = 0; k < MOST_MODULES; k++) {
                module();
                if (reader.sees(Tokens.END)) {
                    break;
                }
            }
        }

        private void module() {
            int start = reader.at;
            head();
            for (int k = 0; k < MOST_INPUT && !reader.sees(Tokens.ENDMODULE); k++) {
                item();
            }
            reader.take(Tokens.ENDMODULE);
            if (modules < MOST_MODULES) {
                moduleName[modules] = start + 1;
                moduleStart[modules] = start;
                moduleEnd[modules] = reader.at;
                modules++;
            }
        }

        /** Makes the circuit of the TEXT that was checked. */
        void flatten() {
            int top = top();
            maker.on = true;
            instances = 0;
            deep = 0;
            tokensDone = moduleEnd[top] - moduleStart[top];
            maker.scope = circuit.addScope(0, 0, 0);
            reader.at = moduleStart[top];
            head();
            for (int k = 0; k < MOST_TOKENS && deep >= 0; k++) {
                if (reader.sees(Tokens.ENDMODULE)) {
                    leave();
                } else if (reader.sees(Tokens.NAME)) {
                    instance();
                } else {
                    item();
                }
            }
            maker.on = false;
        }

        private void leave() {
            deep--;
            if (deep >= 0) {
                reader.at = backTo[deep];
                maker.scope = scopeOutside[deep];
                maker.forgetFrom(symbolsOutside[deep]);
            }
        }

        private int top() {
            int found = -1;
            int tops = 0;
            for (int k = 0; k < modules; k++) {
                int name = tokens.info[moduleName[k]];
                if (moduleNamed(name) != k) {
                    faults.refuse(2, tokens.place[moduleName[k]]);
                }
                if (!instantiated[name]) {
                    found = k;
                    tops++;
                }
            }
            if (tops != 1) {
                faults.refuse(6, 0);
            }
            return Math.max(0, found);
        }

        private int moduleNamed(int name) {
            for (int k = 0; k < modules; k++) {
                if (tokens.info[moduleName[k]] == name) {
                    return k;
                }
            }
            return -1;
        }

        /** A MODULE up to its first ITEM. */
        private void head() {
            reader.take(Tokens.MODULE);
            reader.take(Tokens.NAME);
            if (reader.again('#')) {
                reader.open('(');
                for (int k = 0; k < MOST_INPUT; k++) {
                    reader.take(Tokens.PARAMETER);
                    parameter();
                    if (!reader.again(',')) {
                        break;
                    }
                }
                reader.close(')');
            }
            if (reader.sees('(')) {
                reader.open('(');
                for (int k = 0; k < MOST_INPUT; k++) {
                    port();
                    if (!reader.again(',')) {
                        break;
                    }
                }
                reader.close(')');
            }
            reader.take(';');
        }

        /** NAME = EXPR; the EXPR of a parameter that is linked is passed over. */
        private void parameter() {
            int name = reader.take(Tokens.NAME);
            reader.take('=');
            boolean making = maker.on;
            maker.on = making && !maker.isGiven(name);
            int first = reader.at;
            reader.choice();
            maker.parameter(name, first);
            maker.on = making;
            faults.settle();
        }

        private void port() {
            boolean inward = reader.again(Tokens.INPUT);
            if (!inward) {
                reader.take(Tokens.OUTPUT);
            }
            boolean variable = !reader.again(Tokens.WIRE) && reader.again(Tokens.REG);
            form(variable ? Signal.VARIABLE : Signal.WIRE);
            mould.port = inward ? Signal.INWARD : Signal.OUTWARD;
            int name = reader.take(Tokens.NAME);
            if (variable && inward) {
                maker.note(3, name);
            }
            maker.declare(name, mould);
        }

        /** 'signed' and RANGE of what is declared next. */
        private void form(int sort) {
            mould.sort = sort;
            mould.port = Signal.NO_PORT;
            mould.words = 0;
            mould.signed = reader.again(Tokens.SIGNED);
            mould.width = 1;
            mould.low = 0;
            if (reader.sees('[')) {
                int first = reader.range();
                long width = reader.high - reader.low + 1;
                if (maker.sound && (width < 1 || width > 64)) {
                    maker.note(4, first);
                }
                faults.settle();
                mould.width = (int) width;
                mould.low = (int) reader.low;
            }
        }

        private void item() {
            switch (reader.kind()) {
                case Tokens.WIRE:
                case Tokens.WAND:
                case Tokens.WOR:
                case Tokens.REG:
                    declaration();
                    break;
                case Tokens.INTEGER:
                    integers();
                    break;
                case Tokens.LOCALPARAM:
                    reader.take(Tokens.LOCALPARAM);
                    parameter();
                    reader.take(';');
                    break;
                case Tokens.ASSIGN:
                    maker.checkRoom(reader.take(Tokens.ASSIGN));
                    maker.beginLeft();
                    reader.left(Maker.NETS);
                    reader.take('=');
                    reader.choice();
                    reader.take(';');
                    maker.assign();
                    faults.settle();
                    break;
                case Tokens.INITIAL:
                case Tokens.ALWAYS:
                    process(reader.kind());
                    break;
                default:
                    instanceForm();
                    break;
            }
        }

        private void declaration() {
            int kind = reader.kind();
            reader.take(kind);
            form(kind == Tokens.REG ? Signal.VARIABLE : kind - Tokens.WIRE + Signal.WIRE);
            for (int k = 0; k < MOST_INPUT; k++) {
                int name = reader.take(Tokens.NAME);
                mould.words = 0;
                if (reader.sees('[')) {
                    memory(name);
                }
                maker.declare(name, mould);
                if (!reader.again(',')) {
                    break;
                }
            }
            reader.take(';');
        }

        /** The RANGE behind a NAME. */
        private void memory(int name) {
            if (mould.sort != Signal.VARIABLE) {
                maker.note(3, name);
            }
            int first = reader.range();
            long words = Math.abs(reader.high - reader.low) + 1;
            if (maker.sound && words > MOST_MEMORY) {
                maker.note(4, first);
            } else if (maker.sound) {
                mould.words = (int) words;
                mould.wordLow = (int) Math.min(reader.high, reader.low);
            }
        }

        private void integers() {
            reader.take(Tokens.INTEGER);
            mould.sort = Signal.VARIABLE;
            mould.port = Signal.NO_PORT;
            mould.words = 0;
            mould.signed = true;
            mould.width = 32;
            mould.low = 0;
            for (int k = 0; k < MOST_INPUT; k++) {
                maker.declare(reader.take(Tokens.NAME), mould);
                if (!reader.again(',')) {
                    break;
                }
            }
            reader.take(';');
        }

        private void process(int kind) {
            maker.checkRoom(reader.take(kind));
            int start = maker.here();
            reader.statement(0);
            if (kind == Tokens.ALWAYS) {
                maker.emit(Code.JUMP);
                maker.emit(start);
            } else {
                maker.emit(Code.OVER);
            }
            faults.settle();
            if (maker.on) {
                circuit.addProcess(start);
            }
        }

        /** An instance while only the form is looked at. */
        private void instanceForm() {
            int of = reader.take(Tokens.NAME);
            instantiated[tokens.info[of]] = true;
            if (reader.again('#')) {
                reader.open('(');
                linkForms();
                reader.close(')');
            }
            reader.take(Tokens.NAME);
            reader.open('(');
            if (!reader.sees(')')) {
                linkForms();
            }
            reader.close(')');
            reader.take(';');
        }

        private void linkForms() {
            for (int k = 0; k < MOST_INPUT; k++) {
                reader.take('.');
                reader.take(Tokens.NAME);
                reader.open('(');
                if (!reader.sees(')')) {
                    reader.choice();
                }
                reader.close(')');
                if (!reader.again(',')) {
                    break;
                }
            }
        }

        /** Its NAME, its parameters, its ports and links; its ITEMS are gone on with. */
        private void instance() {
            int of = reader.take(Tokens.NAME);
            int name = reader.sees('#') ? reader.behind(reader.at + 1) : reader.at;
            int module = moduleNamed(tokens.info[of]);
            nameInstance(of, name, module);
            int outside = maker.scope;
            int mark = maker.symbols;
            int inside = circuit.addScope(outside, tokens.place[name],
                    tokens.nameLength[tokens.info[name]]);
            if (reader.again('#')) {
                reader.open('(');
                for (int k = 0; k < MOST_INPUT; k++) {
                    linkParameter(module, inside);
                    if (!reader.again(',')) {
                        break;
                    }
                }
                reader.close(')');
            }
            maker.scope = inside;
            reader.at = moduleStart[module];
            head();
            int items = reader.at;
            maker.scope = outside;
            reader.at = name + 1;
            links(inside);
            backTo[deep] = reader.at;
            scopeOutside[deep] = outside;
            symbolsOutside[deep] = mark;
            deep++;
            maker.scope = inside;
            reader.at = items;
        }

        private void nameInstance(int of, int name, int module) {
            if (module < 0) {
                maker.note(2, of);
            } else {
                tokensDone += moduleEnd[module] - moduleStart[module];
            }
            maker.nameInstance(name);
            instances++;
            if (instances > MOST_INSTANCES || deep >= MOST_DEEP || tokensDone > MOST_TOKENS) {
                maker.note(5, name);
            }
            faults.settle();
        }

        private void linkParameter(int module, int inside) {
            reader.take('.');
            int name = reader.take(Tokens.NAME);
            if (!hasParameter(module, tokens.info[name]) || maker.find(name, inside) >= 0) {
                maker.note(2, name);
            }
            reader.open('(');
            int first = reader.at;
            boolean empty = reader.sees(')');
            long value = 0;
            if (!empty) {
                reader.choice();
                value = maker.constant(first, true);
            }
            reader.close(')');
            faults.settle();
            maker.give(name, inside, empty, value);
        }

        private boolean hasParameter(int module, int name) {
            for (int k = moduleStart[module]; tokens.kind[k] != ';' && k < moduleEnd[module]; k++) {
                if (tokens.kind[k] == Tokens.PARAMETER && tokens.info[k + 1] == name) {
                    return true;
                }
            }
            return false;
        }

        private void links(int inside) {
            reader.open('(');
            for (int k = 0; k < MOST_INPUT && !reader.sees(')'); k++) {
                link(inside);
                reader.again(',');
            }
            reader.close(')');
            reader.take(';');
        }

        private void link(int inside) {
            int dot = reader.take('.');
            int name = reader.take(Tokens.NAME);
            Signal port = maker.port(name, inside);
            reader.open('(');
            if (!reader.sees(')')) {
                maker.checkRoom(dot);
                maker.beginLeft();
                if (port == null) {
                    reader.choice();
                } else if (port.port == Signal.INWARD) {
                    maker.leftPort(name, inside);
                    reader.choice();
                } else {
                    reader.outward();
                    maker.readPort(name, inside);
                }
                maker.assign();
            }
            reader.close(')');
            faults.settle();
        }
    }

    /**
     * TIME and the REGIONS.
     *
     * <p>EVENTS are numbers: processes from 0 on, then ASSIGNS, then those that set something. Each
     * is in one row at most, so the rows are chains through one array.
     */
    private static final class Agenda {
        static final int ACTIVE = 0;
        static final int INACTIVE = 1;
        static final int LATER = 2;
        private static final int FREE = 3;
        static final int ASSIGNS = MOST_TASKS;
        static final int SETTINGS = 2 * MOST_TASKS;
        private static final int MOST_SETTINGS = 4000;
        private static final int MOST_EVENTS = SETTINGS + MOST_SETTINGS;
        private static final int MOST_FUTURE = MOST_TASKS + MOST_SETTINGS;
        private static final int LAST = -1;
        private static final int ABSENT = -2;

        long now;
        private final int[] next = new int[MOST_EVENTS];
        private final int[] head = new int[4];
        private final int[] tail = new int[4];
        final int[] size = new int[4];
        /** FUTURE is a heap: by TIME, then in the order in which they came. */
        private final long[] due = new long[MOST_FUTURE];
        private final long[] rank = new long[MOST_FUTURE];
        private final int[] event = new int[MOST_FUTURE];
        int future;
        private long ranks;
        final int[] signal = new int[MOST_SETTINGS];
        final int[] spot = new int[MOST_SETTINGS];
        final int[] width = new int[MOST_SETTINGS];
        final long[] ones = new long[MOST_SETTINGS];
        final long[] unknown = new long[MOST_SETTINGS];

        void open(Circuit circuit) {
            now = 0;
            future = 0;
            ranks = 0;
            Arrays.fill(head, LAST);
            Arrays.fill(tail, LAST);
            Arrays.fill(size, 0);
            Arrays.fill(next, ABSENT);
            for (int k = SETTINGS; k < MOST_EVENTS; k++) {
                add(FREE, k);
            }
            for (int k = 0; k < circuit.assigns + circuit.processes; k++) {
                add(ACTIVE, circuit.order[k]);
            }
        }

        boolean isEmpty() {
            return size[ACTIVE] + size[INACTIVE] + size[LATER] + future == 0;
        }

        boolean holds(int what) {
            return next[what] != ABSENT;
        }

        void add(int row, int what) {
            if (size[row] == 0) {
                head[row] = what;
            } else {
                next[tail[row]] = what;
            }
            tail[row] = what;
            next[what] = LAST;
            size[row]++;
        }

        /** The first of a row that is not empty. */
        private int first(int row) {
            int what = head[row];
            head[row] = next[what];
            next[what] = ABSENT;
            size[row]--;
            return what;
        }

        /** The next EVENT of ACTIVE, after REGIONS have been moved if it is empty; -1: none. */
        int take() {
            for (int k = 0; k < 3 && size[ACTIVE] == 0; k++) {
                if (size[INACTIVE] > 0) {
                    makeActive(INACTIVE);
                } else if (size[LATER] > 0) {
                    makeActive(LATER);
                } else {
                    advance();
                }
            }
            return size[ACTIVE] == 0 ? -1 : first(ACTIVE);
        }

        private void makeActive(int row) {
            head[ACTIVE] = head[row];
            tail[ACTIVE] = tail[row];
            size[ACTIVE] = size[row];
            size[row] = 0;
        }

        private void advance() {
            if (future == 0) {
                return;
            }
            now = due[0];
            for (int k = 0; k < MOST_FUTURE && future > 0 && due[0] == now; k++) {
                int what = event[0];
                future--;
                sink(due[future], rank[future], event[future]);
                add(what < SETTINGS ? ACTIVE : LATER, what);
            }
        }

        void delay(int what, long by) {
            if (future >= MOST_FUTURE) {
                return;
            }
            long time = now + by;
            int at = future;
            future++;
            // It came last, so it goes up only past those with a later TIME.
            while (at > 0 && due[(at - 1) / 2] > time) {
                move((at - 1) / 2, at);
                at = (at - 1) / 2;
            }
            due[at] = time;
            rank[at] = ranks;
            event[at] = what;
            ranks++;
        }

        private void move(int from, int to) {
            due[to] = due[from];
            rank[to] = rank[from];
            event[to] = event[from];
        }

        private boolean isBefore(int one, long time, long place) {
            return due[one] < time || due[one] == time && rank[one] < place;
        }

        /** Puts an EVENT into the heap, whose first place is free. */
        private void sink(long time, long place, int what) {
            int at = 0;
            for (int k = 0; k < 32; k++) {
                int child = 2 * at + 1;
                if (child + 1 < future && isBefore(child + 1, due[child], rank[child])) {
                    child++;
                }
                if (child >= future || !isBefore(child, time, place)) {
                    break;
                }
                move(child, at);
                at = child;
            }
            due[at] = time;
            rank[at] = place;
            event[at] = what;
        }

        /** An EVENT that is to set something, the spot and the delay being added later; -1: none. */
        int plan(int what, int bits, long someOnes, long someUnknown) {
            if (size[FREE] == 0) {
                return -1;
            }
            int made = first(FREE);
            int slot = made - SETTINGS;
            signal[slot] = what;
            width[slot] = bits;
            ones[slot] = someOnes;
            unknown[slot] = someUnknown;
            return made;
        }

        /** The place of an EVENT that sets something may be used again. */
        void free(int what) {
            add(FREE, what);
        }
    }

    /** LOG, and how values are written into it. */
    private static final class Book {
        private static final String LETTERS = "dbhct";

        final byte[] bytes = new byte[MOST_LOG];
        int size;
        private final byte[] string = new byte[MOST_INPUT];
        private final int[] digits = new int[24];
        private final Worth worth;
        private Circuit circuit;
        /** Where the ARGS are that are not written yet. */
        private int argument;
        private int argumentsEnd;

        Book(Worth someWorth) {
            worth = someWorth;
        }

        void open(Circuit shown) {
            circuit = shown;
            size = 0;
        }

        private void put(int c) {
            if (size < MOST_LOG) {
                bytes[size] = (byte) c;
                size++;
            }
        }

        /** $display or $write at a line. */
        void show(int line) {
            int[] code = circuit.code.line;
            argument = line + 3;
            argumentsEnd = argument + code[line + 2];
            while (argument < argumentsEnd) {
                int what = code[argument];
                argument++;
                if (what < 0) {
                    format(read(~what));
                } else {
                    write(what, 'd', false);
                }
            }
            if (code[line + 1] == 1) {
                put(10);
            }
        }

        /** Takes the STRING at a place of the TEXT apart; answers how many bytes it has. */
        private int read(int place) {
            int length = 0;
            for (int at = place + 1; at < MOST_INPUT - 1 && circuit.text[at] != '"'; at++) {
                if (circuit.text[at] == '\\') {
                    at++;
                    string[length] = circuit.text[at] == 'n' ? 10 : circuit.text[at];
                } else {
                    string[length] = circuit.text[at];
                }
                length++;
            }
            return length;
        }

        private void format(int length) {
            for (int at = 0; at < length; at++) {
                if (string[at] != '%' || at + 1 == length) {
                    put(string[at]);
                } else if (string[at + 1] == '%') {
                    put('%');
                    at++;
                } else if (isLetter(string[at + 1])) {
                    next(string[at + 1], false);
                    at++;
                } else if (string[at + 1] == '0' && at + 2 < length && isLetter(string[at + 2])) {
                    next(string[at + 2], true);
                    at += 2;
                } else {
                    put('%');
                }
            }
        }

        private static boolean isLetter(int c) {
            return c > 0 && LETTERS.indexOf((char) c) >= 0;
        }

        private void next(int letter, boolean bare) {
            int root = argument < argumentsEnd ? circuit.code.line[argument] : -1;
            if (root < 0) {
                put('x');
            } else {
                argument++;
                write(root, letter, bare);
            }
        }

        private void write(int root, int letter, boolean bare) {
            worth.work(circuit, root);
            long ones = worth.ones();
            long unknown = worth.unknown();
            int shape = circuit.code.own[root];
            switch (letter) {
                case 'b':
                    groups(ones, unknown, shape & Code.WIDTH, bare ? -1 : 1);
                    break;
                case 'h':
                    groups(ones, unknown, shape & Code.WIDTH, bare ? -4 : 4);
                    break;
                case 'c':
                    put((int) (ones & ~unknown & 255));
                    break;
                case 't':
                    decimal(ones, unknown, shape, bare ? 0 : 20);
                    break;
                default:
                    decimal(ones, unknown, shape, bare ? 0 : places(shape));
                    break;
            }
        }

        /** Bits by ones or fours, the highest first; below 0: without zeros at the beginning. */
        private void groups(long ones, long unknown, int width, int by) {
            int step = Math.abs(by);
            boolean silent = by < 0;
            for (int low = (width - 1) / step * step; low >= 0; low -= step) {
                long all = mask(Math.min(step, width - low));
                int c = group(ones >>> low & all, unknown >>> low & all, all);
                silent = silent && c == '0' && low > 0;
                if (!silent) {
                    put(c);
                }
            }
        }

        private static int group(long ones, long unknown, long all) {
            if (unknown == 0) {
                return ones < 10 ? (int) ('0' + ones) : (int) ('a' + ones - 10);
            }
            return unclear(ones, unknown, all);
        }

        /** The letter for bits with x or z among them. */
        private static int unclear(long ones, long unknown, long all) {
            if (unknown == all && (ones == all || ones == 0)) {
                return ones == 0 ? 'z' : 'x';
            }
            return (ones & unknown) != 0 ? 'X' : 'Z';
        }

        private static int places(int shape) {
            int width = shape & Code.WIDTH;
            boolean signed = (shape & Code.SIGNED) != 0;
            long most = signed ? mask(width) >>> 1 : mask(width);
            int places = signed ? 2 : 1;
            for (int k = 0; k < 20 && (most < 0 || most > 9); k++) {
                most = tenth(most);
                places++;
            }
            return places;
        }

        private static long tenth(long number) {
            return (number >>> 1) / 5;
        }

        private void decimal(long ones, long unknown, int shape, int places) {
            int width = shape & Code.WIDTH;
            int length = 0;
            if (unknown != 0) {
                digits[0] = unclear(ones, unknown, mask(width));
                length = 1;
            } else {
                boolean negative = (shape & Code.SIGNED) != 0 && (ones >>> width - 1 & 1) != 0;
                long rest = negative ? -asSigned(ones, width) : ones;
                for (int k = 0; k < 20 && (k == 0 || rest != 0); k++) {
                    digits[length] = (int) ('0' + (rest - tenth(rest) * 10));
                    length++;
                    rest = tenth(rest);
                }
                if (negative) {
                    digits[length] = '-';
                    length++;
                }
            }
            for (int k = length; k < places; k++) {
                put(' ');
            }
            for (int k = length - 1; k >= 0; k--) {
                put(digits[k]);
            }
        }
    }

    /** Plays THE CIRCUIT. */
    private static final class Stage {
        /** Far more lines than those that cost nothing between 20000 that do. */
        private static final int MOST_LINES = 1 << 24;
        private static final long MOST_DELAY = 1000000000;

        final Agenda agenda = new Agenda();
        private final Worth worth = new Worth();
        final Book book = new Book(worth);
        private Circuit circuit;
        private Code code;
        /** Of each process: its line, what it assigns after a wait, what it waits for. */
        private final int[] line = new int[MOST_TASKS];
        private final long[] heldOnes = new long[MOST_TASKS];
        private final long[] heldUnknown = new long[MOST_TASKS];
        /** The line of its EVENTS, or -1: any change will do. */
        private final int[] events = new int[MOST_TASKS];
        private final long[] heeded = new long[MOST_TASKS * SET_LONGS];
        /** The processes that wait for a change, in the order in which they began to. */
        private final int[] waiting = new int[MOST_TASKS];
        private int waitingCount;
        private final long[] counters = new long[Code.MOST_COUNTERS];
        /** The process that is in the midst of its STATEMENTS, -1: none. */
        private int midst;
        private int over;
        private int left;
        private int cost;
        private int end;

        void open(Circuit shown) {
            circuit = shown;
            code = shown.code;
            agenda.open(shown);
            worth.now = 0;
            book.open(shown);
            for (int k = 0; k < shown.processes; k++) {
                line[k] = shown.processStart[k];
            }
            waitingCount = 0;
            midst = -1;
            over = 0;
            cost = 0;
            end = 0;
        }

        int tally(int what) {
            switch (what) {
                case 1:
                    return circuit.signalCount;
                case 2:
                    return circuit.assigns;
                case 3:
                    return circuit.processes;
                case 4:
                    return book.size;
                case 5:
                    return cost;
                case 6:
                case 7:
                case 8:
                    return agenda.size[what - 6];
                case 9:
                    return agenda.future;
                case 10:
                    return waitingCount;
                default:
                    return over;
            }
        }

        int play(int n) {
            left = n;
            for (int k = 0; k < n && left > 0 && end == 0; k++) {
                if (midst < 0 && !begin()) {
                    break;
                }
                goOn();
            }
            if (end != 0) {
                return end;
            }
            return midst < 0 && agenda.isEmpty() ? 2 : 0;
        }

        private void pay() {
            left--;
            cost++;
        }

        /** Takes an EVENT and does it, but for a process, which is to go on then. */
        private boolean begin() {
            int what = agenda.take();
            worth.now = agenda.now;
            if (what < 0) {
                return false;
            }
            pay();
            if (what >= Agenda.SETTINGS) {
                int slot = what - Agenda.SETTINGS;
                agenda.free(what);
                store(agenda.signal[slot], agenda.spot[slot], agenda.width[slot],
                        agenda.ones[slot], agenda.unknown[slot]);
            } else if (what >= Agenda.ASSIGNS) {
                drive(what - Agenda.ASSIGNS);
            } else {
                midst = what;
            }
            return true;
        }

        /** What costs nothing is done with what was paid before it. */
        private void goOn() {
            for (int k = 0; k < MOST_LINES && midst >= 0 && end == 0; k++) {
                if (code.line[line[midst]] != Code.PAY) {
                    obey(midst, line[midst]);
                } else if (left > 0) {
                    pay();
                    line[midst]++;
                } else {
                    break;
                }
            }
        }

        private int operand(int at, int number) {
            return code.line[at + number];
        }

        private void obey(int p, int at) {
            switch (operand(at, 0)) {
                case Code.SET:
                    worth.work(circuit, operand(at, 1));
                    line[p] = at + 4;
                    assign(operand(at, 2), operand(at, 3), worth.ones(), worth.unknown());
                    break;
                case Code.HOLD:
                    worth.work(circuit, operand(at, 1));
                    line[p] = at + 2;
                    heldOnes[p] = worth.ones();
                    heldUnknown[p] = worth.unknown();
                    break;
                case Code.PUT:
                    line[p] = at + 3;
                    assign(operand(at, 1), operand(at, 2), heldOnes[p], heldUnknown[p]);
                    break;
                case Code.AFTER:
                    line[p] = at + 5;
                    postpone(at);
                    break;
                case Code.SHOW:
                    line[p] = at + 3 + operand(at, 2);
                    book.show(at);
                    break;
                case Code.FINISH:
                    end = 1;
                    break;
                case Code.OVER:
                    over++;
                    midst = -1;
                    break;
                case Code.DELAY:
                case Code.AWAIT:
                case Code.STAR:
                case Code.UNTIL:
                    rest(p, at);
                    break;
                default:
                    line[p] = turned(at);
                    break;
            }
        }

        /** Where it is gone on behind a line that only says that. */
        private int turned(int at) {
            switch (operand(at, 0)) {
                case Code.JUMP:
                    return operand(at, 1);
                case Code.UNLESS:
                    worth.work(circuit, operand(at, 1));
                    return worth.isTrue() ? at + 3 : operand(at, 2);
                case Code.COUNT:
                    worth.work(circuit, operand(at, 2));
                    counters[operand(at, 1)] = worth.unknown() == 0 ? worth.ones() : 0;
                    return at + 3;
                case Code.NEXT:
                    if (counters[operand(at, 1)] == 0) {
                        return operand(at, 2);
                    }
                    counters[operand(at, 1)]--;
                    return at + 3;
                default:
                    return picked(at);
            }
        }

        private int picked(int at) {
            boolean casez = operand(at, 1) == 1;
            worth.work(circuit, operand(at, 2));
            long ones = worth.ones();
            long unknown = worth.unknown();
            int other = operand(at, 3);
            boolean defaulted = false;
            int choice = at + 4;
            for (int k = 0; k < MOST_INPUT; k++) {
                int labels = operand(choice, 2);
                if (labels == 0 && !defaulted) {
                    other = operand(choice, 1);
                    defaulted = true;
                }
                for (int label = 0; label < labels; label++) {
                    worth.work(circuit, operand(choice, 3 + label));
                    if (isMatch(ones, unknown, casez)) {
                        return operand(choice, 1);
                    }
                }
                choice = operand(choice, 0);
                if (choice == 0) {
                    break;
                }
            }
            return other;
        }

        private boolean isMatch(long ones, long unknown, boolean casez) {
            long differing = ones ^ worth.ones() | unknown ^ worth.unknown();
            long free = unknown & ~ones | worth.unknown() & ~worth.ones();
            return (casez ? differing & ~free : differing) == 0;
        }

        private long delayOf(int root) {
            worth.work(circuit, root);
            if (worth.unknown() != 0) {
                return 0;
            }
            long by = worth.ones();
            return by < 0 || by > MOST_DELAY ? MOST_DELAY : by;
        }

        /** The process waits, unless it waits for what is TRUE already. */
        private void rest(int p, int at) {
            switch (operand(at, 0)) {
                case Code.DELAY:
                    line[p] = at + 2;
                    long by = delayOf(operand(at, 1));
                    if (by == 0) {
                        agenda.add(Agenda.INACTIVE, p);
                    } else {
                        agenda.delay(p, by);
                    }
                    midst = -1;
                    break;
                case Code.AWAIT:
                    line[p] = at + 2 + 3 * operand(at, 1);
                    heed(p, at + 1);
                    break;
                case Code.STAR:
                    line[p] = at + 3;
                    heedNodes(p, operand(at, 1), operand(at, 2));
                    break;
                default:
                    int root = operand(at, 1);
                    worth.work(circuit, root);
                    if (worth.isTrue()) {
                        line[p] = at + 2;
                    } else {
                        heedNodes(p, code.first[root], root + 1);
                    }
                    break;
            }
        }

        private void heed(int p, int at) {
            beginToWait(p, at);
            for (int k = 0; k < operand(at, 0); k++) {
                include(p, operand(at, 2 + 3 * k));
            }
        }

        private void heedNodes(int p, int from, int to) {
            beginToWait(p, -1);
            for (int k = from; k < to; k++) {
                int read = circuit.signalRead(k);
                if (read >= 0) {
                    include(p, read);
                }
            }
        }

        private void beginToWait(int p, int at) {
            midst = -1;
            events[p] = at;
            waiting[waitingCount] = p;
            waitingCount++;
            Arrays.fill(heeded, p * SET_LONGS, (p + 1) * SET_LONGS, 0);
        }

        private void include(int p, int signal) {
            heeded[p * SET_LONGS + signal / 64] |= 1L << signal % 64;
        }

        /** How many bits a row of LEFTS has. */
        private int widthOf(int from, int to) {
            int width = 0;
            for (int k = from; k < to; k++) {
                width += code.leftWidth[k];
            }
            return width;
        }

        /** Where a LEFT lies in its VARIABLE: 64 times the word, and the bit; -1: nowhere. */
        private int spot(int leftAt) {
            Signal signal = circuit.signals[code.leftSignal[leftAt]];
            int index = code.leftIndex[leftAt];
            switch (code.leftWay[leftAt]) {
                case Code.WHOLE:
                    return 0;
                case Code.PART:
                    return index;
                case Code.BIT:
                    worth.work(circuit, index);
                    return within(worth.index(index), signal.low, signal.width);
                case Code.WORD:
                    worth.work(circuit, index);
                    int word = within(worth.index(index), signal.wordLow, signal.words);
                    return word < 0 ? -1 : word * 64;
                default:
                    return -1;
            }
        }

        private void assign(int from, int to, long ones, long unknown) {
            int rest = widthOf(from, to);
            for (int k = from; k < to; k++) {
                int width = code.leftWidth[k];
                rest -= width;
                store(code.leftSignal[k], spot(k), width, ones >>> rest, unknown >>> rest);
            }
        }

        private void postpone(int at) {
            worth.work(circuit, operand(at, 1));
            long ones = worth.ones();
            long unknown = worth.unknown();
            int to = operand(at, 3);
            int rest = widthOf(operand(at, 2), to);
            long by = operand(at, 4) < 0 ? 0 : delayOf(operand(at, 4));
            for (int k = operand(at, 2); k < to; k++) {
                int width = code.leftWidth[k];
                rest -= width;
                int made = agenda.plan(code.leftSignal[k], width, ones >>> rest, unknown >>> rest);
                if (made < 0) {
                    end = 3;
                    break;
                }
                agenda.spot[made - Agenda.SETTINGS] = spot(k);
                if (by == 0) {
                    agenda.add(Agenda.LATER, made);
                } else {
                    agenda.delay(made, by);
                }
            }
        }

        /** Sets bits of a VARIABLE; those of the numbers beyond the width do not count. */
        void store(int v, int spot, int width, long ones, long unknown) {
            if (spot < 0) {
                return;
            }
            int cell = circuit.signals[v].cell + spot / 64;
            int low = spot % 64;
            long bits = mask(width) << low;
            change(v, cell, circuit.ones[cell] & ~bits | ones << low & bits,
                    circuit.unknown[cell] & ~bits | unknown << low & bits);
        }

        private void drive(int assign) {
            worth.work(circuit, circuit.assignRoot[assign]);
            long ones = worth.ones();
            long unknown = worth.unknown();
            int from = circuit.assignFrom[assign];
            int to = circuit.assignTo[assign];
            int rest = widthOf(from, to);
            for (int k = from; k < to; k++) {
                int width = code.leftWidth[k];
                rest -= width;
                int low = spot(k);
                if (low >= 0) {
                    long bits = mask(width) << low;
                    code.driverOnes[k] = ones >>> rest << low & bits;
                    code.driverUnknown[k] = unknown >>> rest << low & bits | ~bits;
                    resolve(code.leftSignal[k]);
                }
            }
        }

        /** What all drivers of a NET make of it. */
        private void resolve(int v) {
            Signal net = circuit.signals[v];
            long zeros = 0;
            long highs = 0;
            long unclear = 0;
            for (int k = net.driver; k >= 0; k = code.driverNext[k]) {
                zeros |= ~code.driverOnes[k] & ~code.driverUnknown[k];
                highs |= code.driverOnes[k] & ~code.driverUnknown[k];
                unclear |= code.driverOnes[k] & code.driverUnknown[k];
            }
            long driven = zeros | highs | unclear;
            if (net.sort == Signal.WAND) {
                highs &= ~zeros;
                unclear &= ~zeros;
            } else if (net.sort == Signal.WOR) {
                unclear &= ~highs;
            } else {
                unclear |= zeros & highs;
            }
            long all = mask(net.width);
            change(v, net.cell, (highs | unclear) & all, (unclear | ~driven) & all);
        }

        private void change(int v, int cell, long ones, long unknown) {
            long onesBefore = circuit.ones[cell];
            long unknownBefore = circuit.unknown[cell];
            if (ones == onesBefore && unknown == unknownBefore) {
                return;
            }
            circuit.ones[cell] = ones;
            circuit.unknown[cell] = unknown;
            wake(v, cell, onesBefore, unknownBefore);
            for (int k = 0; k < SET_LONGS; k++) {
                long set = circuit.readers[v * SET_LONGS + k];
                for (int one = 0; one < 64 && set != 0; one++) {
                    int reader = Agenda.ASSIGNS + k * 64 + Long.numberOfTrailingZeros(set);
                    set &= set - 1;
                    if (!agenda.holds(reader)) {
                        agenda.add(Agenda.ACTIVE, reader);
                    }
                }
            }
        }

        private void wake(int v, int cell, long onesBefore, long unknownBefore) {
            int kept = 0;
            for (int k = 0; k < waitingCount; k++) {
                int p = waiting[k];
                boolean heeds = (heeded[p * SET_LONGS + v / 64] >>> v % 64 & 1) != 0;
                if (heeds && fits(events[p], v, cell, onesBefore, unknownBefore)) {
                    agenda.add(Agenda.ACTIVE, p);
                } else {
                    waiting[kept] = p;
                    kept++;
                }
            }
            waitingCount = kept;
        }

        /** Whether one of the EVENTS at a line is the change that has happened. */
        private boolean fits(int at, int v, int cell, long onesBefore, long unknownBefore) {
            if (at < 0) {
                return true;
            }
            for (int k = 0; k < operand(at, 0); k++) {
                int edge = operand(at, 1 + 3 * k);
                int bit = operand(at, 3 + 3 * k);
                if (operand(at, 2 + 3 * k) != v || bit == -2) {
                    continue;
                }
                if (bit == -1) {
                    return true;
                }
                int before = state(onesBefore, unknownBefore, bit);
                int after = state(circuit.ones[cell], circuit.unknown[cell], bit);
                if (before != after
                        && (edge == 0 || before == edge - 1 || after == 2 - edge)) {
                    return true;
                }
            }
            return false;
        }

        /** A bit as a number: 0, 1, 2 for z, 3 for x. */
        private static int state(long ones, long unknown, int bit) {
            return (int) (ones >>> bit & 1 | (unknown >>> bit & 1) << 1);
        }
    }
}
