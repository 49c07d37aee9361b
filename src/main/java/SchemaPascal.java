import java.util.ArrayList;
import java.util.Arrays;

/** A house for programs of a small Pascal: a text is read whole, then done statement by statement. */
public final class SchemaPascal {
    public static final int NONE = -1;

    // The document's limits.
    private static final int MOST_BYTES = 32768;
    private static final int MOST_DEEP = 40;
    private static final int MOST_TALL = 60;
    private static final int MOST_PIECES = 4000;
    private static final int MOST_CELLS = 4000;
    private static final int MOST_FIELDS = 4000;
    private static final int MOST_DISCRIMINANTS = 4;
    private static final int MOST_PARAMS = 10;
    private static final int MOST_SHARING = 2;
    private static final int MOST_CALLS = 100;
    private static final int MOST_TAKEN = 20000;
    private static final int MOST_STEPS = 20000;
    private static final int MOST_INPUT = 1000;
    private static final int MOST_KEPT = 20000;
    private static final int MOST_TEXT = 80;
    private static final int MOST_NAME = 20;
    private static final int MOST_MEMBER = 63;
    private static final int MOST_WAITING_BYTES = 20000;
    private static final int MAXINT = 2147483647;

    // Bounds of loops and rows, above what any text or run can need.
    private static final int MANY = 1_000_000;
    private static final long FAR = 1L << 50;
    private static final int MOST_NAMES = MOST_BYTES / 2 + 128;
    private static final int MOST_LETTERS = MOST_BYTES + 1024;
    private static final int MOST_OPERANDS = 200_000;
    private static final int MOST_NESTED = MOST_TALL + 8;

    // A reference is its first cell and the discriminants that hold there; a row of the store is one.
    private static final int ROW = 1 + MOST_DISCRIMINANTS;
    private static final long NO_NUMBER = 1L << 63;

    // The names in the order in which they get their numbers.
    private static final String KEPT_NAMES = "program const type var procedure function forward begin end if then else while do repeat until for to downto case of otherwise with array record set string nil div mod and or not in protected value ";
    private static final String TOLD_NAMES = "integer boolean char true false maxint abs sqr odd ord chr succ pred length card index substr eof new dispose read write writeln halt ";
    private static final String SIGNS = "+-*=<>()[],;:^.";

    // Words.
    private static final int W_END = 0;
    private static final int W_NAME = 1;
    private static final int W_NUMBER = 2;
    private static final int W_TEXT = 3;
    private static final int W_PLUS = 4;
    private static final int W_MINUS = 5;
    private static final int W_TIMES = 6;
    private static final int W_EQUAL = 7;
    private static final int W_LESS = 8;
    private static final int W_GREATER = 9;
    private static final int W_OPEN = 10;
    private static final int W_CLOSE = 11;
    private static final int W_OPEN_SQUARE = 12;
    private static final int W_CLOSE_SQUARE = 13;
    private static final int W_COMMA = 14;
    private static final int W_SEMICOLON = 15;
    private static final int W_COLON = 16;
    private static final int W_CARET = 17;
    private static final int W_DOT = 18;
    private static final int W_UNEQUAL = 19;
    private static final int W_AT_MOST = 20;
    private static final int W_AT_LEAST = 21;
    private static final int W_BECOMES = 22;
    private static final int W_DOTS = 23;
    private static final int W_KEPT = 24;
    private static final int W_PROGRAM = 24;
    private static final int W_CONST = 25;
    private static final int W_TYPE = 26;
    private static final int W_VAR = 27;
    private static final int W_PROCEDURE = 28;
    private static final int W_FUNCTION = 29;
    private static final int W_FORWARD = 30;
    private static final int W_BEGIN = 31;
    private static final int W_FINISH = 32;
    private static final int W_IF = 33;
    private static final int W_THEN = 34;
    private static final int W_ELSE = 35;
    private static final int W_WHILE = 36;
    private static final int W_DO = 37;
    private static final int W_REPEAT = 38;
    private static final int W_UNTIL = 39;
    private static final int W_FOR = 40;
    private static final int W_TO = 41;
    private static final int W_DOWNTO = 42;
    private static final int W_CASE = 43;
    private static final int W_OF = 44;
    private static final int W_OTHERWISE = 45;
    private static final int W_WITH = 46;
    private static final int W_ARRAY = 47;
    private static final int W_RECORD = 48;
    private static final int W_SET = 49;
    private static final int W_STRING = 50;
    private static final int W_NIL = 51;
    private static final int W_DIV = 52;
    private static final int W_MOD = 53;
    private static final int W_AND = 54;
    private static final int W_OR = 55;
    private static final int W_NOT = 56;
    private static final int W_IN = 57;
    private static final int W_PROTECTED = 58;
    private static final int W_VALUE = 59;

    // Names that are known at first: their numbers.
    private static final int N_KEPT = 36;
    private static final int N_INTEGER = 36;
    private static final int N_BOOLEAN = 37;
    private static final int N_CHAR = 38;
    private static final int N_TRUE = 39;
    private static final int N_FALSE = 40;
    private static final int N_MAXINT = 41;
    private static final int N_ABS = 42;
    private static final int N_SQR = 43;
    private static final int N_ODD = 44;
    private static final int N_ORD = 45;
    private static final int N_CHR = 46;
    private static final int N_SUCC = 47;
    private static final int N_PRED = 48;
    private static final int N_LENGTH = 49;
    private static final int N_CARD = 50;
    private static final int N_INDEX = 51;
    private static final int N_SUBSTR = 52;
    private static final int N_EOF = 53;
    private static final int N_NEW = 54;
    private static final int N_DISPOSE = 55;
    private static final int N_READ = 56;
    private static final int N_WRITE = 57;
    private static final int N_WRITELN = 58;
    private static final int N_HALT = 59;

    // Kinds of symbols.
    private static final int S_CONSTANT = 1;
    private static final int S_TYPE = 2;
    private static final int S_VARIABLE = 3;
    private static final int S_ROUTINE = 4;
    private static final int S_KNOWN_FUNCTION = 5;
    private static final int S_KNOWN_PROCEDURE = 6;
    private static final int S_DISCRIMINANT = 7;
    private static final int S_FIELD = 8;

    // How a variable is one: of var, or as which kind of param.
    private static final int OWN = 0;
    private static final int BY_VALUE = 1;
    private static final int BY_VAR = 2;
    private static final int BY_PROTECTED = 3;

    // Kinds of types; the ordinals come first.
    private static final int T_INTEGER = 1;
    private static final int T_BOOLEAN = 2;
    private static final int T_CHAR = 3;
    private static final int T_LIST = 4;
    private static final int T_SPAN = 5;
    private static final int T_SET = 6;
    private static final int T_STRING = 7;
    private static final int T_ARRAY = 8;
    private static final int T_RECORD = 9;
    private static final int T_POINTER = 10;
    private static final int T_GIVEN = 11;
    private static final int T_SCHEMA = 12;
    private static final int T_NIL = 13;

    // Which types may stand where one is read.
    private static final int ANY = 0;
    private static final int ORDINAL = 1;
    private static final int STRUCTURE = 2;

    // What an item is: a number or text that the code leaves, a variable, an array or record in brackets.
    private static final int VALUE = 0;
    private static final int REFERENCE = 1;
    private static final int SEALED = 2;

    // Rules of the grammar that stand in one another.
    private static final int R_TEXT = 0;
    private static final int R_BLOCK = 1;
    private static final int R_STATEMENTS = 2;
    private static final int R_SUM0 = 3;

    // Kinds of faults, in the order in which they count at one word, and the code of each.
    private static final int NO_WORD = 1;
    private static final int TOO_MUCH = 2;
    private static final int NOT_KNOWN = 3;        // or no ordinal
    private static final int UNWORKABLE = 4;
    private static final int TOLD_TWICE = 5;
    private static final int MISFIT = 6;
    private static final int BAD_CASE = 7;
    private static final int GUARDED = 8;
    private static final int IMPOSSIBLE = 9;
    private static final int TOO_SHARED = 10;
    private static final int TOLD_BY_TYPE = 11;
    private static final int MISCOUNTED = 12;
    private static final int MISPLACED = 13;
    private static final int UNKNOWN = 14;
    private static final int NO_BLOCK = 15;
    private static final int[] CODES = {0, 1, 8, 5, 7, 4, 5, 9, 6, 7, 8, 4, 5, 2, 3, 10};

    // Numbers of errors.
    private static final int E_UNDEFINED = 1;
    private static final int E_OUTSIDE = 2;
    private static final int E_VARIANT = 3;
    private static final int E_NIL = 4;
    private static final int E_GONE = 5;
    private static final int E_BEYOND = 6;
    private static final int E_DIVISION = 7;
    private static final int E_CASE = 8;
    private static final int E_DIFFER = 9;
    private static final int E_RESULT = 10;
    private static final int E_ROOM = 11;
    private static final int E_INPUT = 12;

    // Sorts of what is not an ordinal, a set or a pointer; a cell of sort 0 is UNDEFINED.
    private static final int LENGTH_SORT = 1;
    private static final int BYTE_SORT = 2;

    // What code does, and what stands behind it.
    private static final int STEP = 1;             // place
    private static final int JUMP = 2;             // to
    private static final int UNLESS = 3;           // to
    private static final int PICK = 4;             // low, high, to
    private static final int NO_CASE = 5;          // place
    private static final int DROP = 6;
    private static final int FOR_FIRST = 7;        // slot, down, place, to
    private static final int FOR_NEXT = 8;         // slot, down, place, to
    private static final int CALL = 9;             // routine, outward, place
    private static final int LEAVE = 10;
    private static final int MAKE = 11;            // slot
    private static final int FIRST_NAME = 12;      // slot
    private static final int MAKE_GIVEN = 13;      // type
    private static final int NEXT_NAME = 14;       // last slot, to
    private static final int GIVE = 15;            // slot, number
    private static final int GIVE_TEXT = 16;       // slot, at, length
    private static final int BIND = 17;            // slot
    private static final int HALT = 18;
    private static final int VARIABLE = 20;        // outward, slot, place
    private static final int WITHIN = 21;          // slot
    private static final int FIELD = 22;           // field, place
    private static final int INDEX = 23;           // type, place
    private static final int FOLLOW = 24;          // type, place
    private static final int OF_SCHEMA = 25;       // which
    private static final int LOAD = 26;            // type, place
    private static final int LOAD_TEXT = 27;       // type, place
    private static final int STORE = 30;           // type, place
    private static final int STORE_TEXT = 31;      // type, place
    private static final int STORE_TAG = 32;       // field, place
    private static final int COPY = 33;            // type, place
    private static final int READ = 34;            // type, place
    private static final int NEW = 35;             // type, place
    private static final int DISPOSE = 36;         // type, place
    private static final int WRITE = 37;           // kind of type
    private static final int WRITE_TEXT = 38;
    private static final int WRITE_LINE = 39;
    private static final int CONST = 40;           // number
    private static final int DISCRIMINANT = 41;    // which
    private static final int NEGATE = 42;
    private static final int NOT = 43;
    private static final int CHR = 44;             // place
    private static final int SUCC = 45;            // limit, place
    private static final int PRED = 46;            // limit, place
    private static final int ABS = 47;
    private static final int ODD = 48;
    private static final int SQR = 49;             // place
    private static final int CARD = 50;
    private static final int EOF = 51;
    private static final int MEMBER = 52;          // place
    private static final int MEMBERS = 53;         // place
    private static final int TEXT = 60;            // at, length, place
    private static final int TO_TEXT = 61;         // place
    private static final int CONCAT = 62;          // place
    private static final int COMPARE_TEXT = 63;    // relation
    private static final int LENGTH = 64;
    private static final int FIND = 65;
    private static final int SUBSTR = 66;          // place
    // With two sides, each with a place; to AT_LEAST they may stand in KNOWN sums.
    private static final int ADD = 70;
    private static final int SUBTRACT = 71;
    private static final int MULTIPLY = 72;
    private static final int DIVIDE = 73;
    private static final int MODULO = 74;
    private static final int AND = 75;
    private static final int OR = 76;
    private static final int EQUAL = 77;
    private static final int UNEQUAL = 78;
    private static final int LESS = 79;
    private static final int GREATER = 80;
    private static final int AT_MOST = 81;
    private static final int AT_LEAST = 82;
    private static final int ALL_OF = 83;
    private static final int LESS_OF = 84;
    private static final int COMMON_OF = 85;
    private static final int PART_OF = 86;
    private static final int WHOLE_OF = 87;
    private static final int IN = 88;

    // What the store keeps of an activation.
    private static final int CALL_WORDS = 9;
    private static final int C_ROUTINE = 0;
    private static final int C_PLACE = 1;
    private static final int C_OUTER = 2;
    private static final int C_RETURN = 3;
    private static final int C_LATEST = 4;
    private static final int C_ROW = 5;
    private static final int C_ROWS = 6;
    private static final int C_CELL = 7;
    private static final int C_TAKEN = 8;

    // States of the machine.
    private static final int IDLE = 0;
    private static final int GOING = 1;
    private static final int ENDED = 2;
    private static final int FAILED = 3;

    private final byte[] tape = new byte[MOST_BYTES];
    private int used;
    private boolean ready;
    private int faultCode;
    private final Program program;
    private final Words words;
    private final Reader reader;
    private final Machine machine;

    public SchemaPascal() {
        program = new Program();
        words = new Words(tape, program.texts);
        reader = new Reader(words, program);
        machine = new Machine(program);
    }

    public int feed(int a, int b, int c, int d, int e) throws UnsupportedOperationException {
        if (used > MOST_BYTES - 20) {
            throw new UnsupportedOperationException();
        }
        keepBytes(a);
        keepBytes(b);
        keepBytes(c);
        keepBytes(d);
        keepBytes(e);
        return used;
    }

    private void keepBytes(int number) {
        for (int shift = 24; shift >= 0; shift -= 8) {
            if (used < MOST_BYTES) {
                tape[used] = (byte) (number >>> shift);
                used++;
            }
        }
    }

    public void end(int n) throws IllegalArgumentException {
        if (n < 0 || n > used) {
            throw new IllegalArgumentException();
        }
        used = n;
    }

    public int compile() {
        machine.forget();
        program.clear();
        words.open(used);
        used = 0;
        ready = false;
        // The reader leaves at the first fault by an exception of its own.
        reader.open();
        try {
            reader.readRule(R_TEXT, 0);
            ready = true;
        } catch (IllegalStateException e) {
            ready = false;
        }
        faultCode = ready ? 0 : words.faultCode;
        return ready ? 0 : -1 - words.faultPlace;
    }

    public int fault() {
        return faultCode;
    }

    public void start() throws IllegalStateException {
        if (!ready) {
            throw new IllegalStateException();
        }
        machine.begin();
        machine.run(0);
    }

    public int input(int v) throws IllegalArgumentException, UnsupportedOperationException {
        if (v < -MAXINT) {
            throw new IllegalArgumentException();
        }
        if (machine.unread >= MOST_INPUT) {
            throw new UnsupportedOperationException();
        }
        machine.accept(v);
        return machine.unread;
    }

    public int step(int n) throws IllegalArgumentException, IllegalStateException {
        if (n < 0 || n > MOST_STEPS) {
            throw new IllegalArgumentException();
        }
        if (machine.state != GOING) {
            throw new IllegalStateException();
        }
        return machine.run(n);
    }

    public int told(int what) throws IndexOutOfBoundsException {
        switch (what) {
            case 0: return machine.state == GOING ? 1 : 0;
            case 1: return machine.steps;
            case 2: return machine.error;
            case 3: return machine.errorPlace;
            case 4: return machine.store.calls;
            case 5: return machine.store.taken;
            case 6: return machine.store.thingsTaken;
            case 7: return machine.store.thingsThere;
            case 8: return machine.written;
            case 9: return machine.unread;
            case 10: return ready ? program.routines.size() - 1 : 0;
            case 11: return used;
            default: throw new IndexOutOfBoundsException();
        }
    }

    public int activation(int i, int what) throws IndexOutOfBoundsException {
        if (i < 0 || i >= machine.store.calls || what < 0 || what > 3) {
            throw new IndexOutOfBoundsException();
        }
        int call = machine.store.calls - 1 - i;
        switch (what) {
            case 0: return machine.store.ofCall(call, C_ROUTINE);
            case 1: return machine.store.ofCall(call, C_PLACE);
            case 2: return program.routineAt(machine.store.ofCall(call, C_ROUTINE)).variables.size();
            default: return machine.store.ofCall(call, C_LATEST);
        }
    }

    public long value(int i, int k, int c) throws IndexOutOfBoundsException, IllegalStateException {
        int row = machine.rowOfVariable(i, k);
        if (row < 0 || c < 0 || c >= machine.cellsOfVariable(i, k)) {
            throw new IndexOutOfBoundsException();
        }
        int cell = (int) machine.store.inRow(row, 0) + c;
        if (machine.store.sortAt(cell) == 0) {
            throw new IllegalStateException();
        }
        return machine.store.numberAt(cell);
    }

    public int variable(int i, int k, int what) throws IndexOutOfBoundsException {
        int row = machine.rowOfVariable(i, k);
        if (row < 0 || what < 0) {
            throw new IndexOutOfBoundsException();
        }
        int cells = machine.cellsOfVariable(i, k);
        if (what == 0) {
            return cells;
        }
        if (what == 1) {
            return machine.store.defined((int) machine.store.inRow(row, 0), cells);
        }
        if (what - 2 >= program.discriminantsOf(machine.typeOfVariable(i, k))) {
            throw new IndexOutOfBoundsException();
        }
        return (int) machine.store.inRow(row, what - 1);
    }

    public int thing(int n, int what) throws IndexOutOfBoundsException {
        if (n < 1 || n > machine.store.things || what < 0) {
            throw new IndexOutOfBoundsException();
        }
        if (what == 0) {
            return machine.store.isThere(n) ? 1 : 0;
        }
        if (what == 1) {
            return machine.store.isThere(n) ? machine.cellsOfThing(n) : 0;
        }
        if (what - 2 >= program.discriminantsOf(program.typeAt(machine.store.typeOfThing(n)))) {
            throw new IndexOutOfBoundsException();
        }
        return (int) machine.store.inRow(machine.store.rowOfThing(n), what - 1);
    }

    public long cell(int n, int c) throws IndexOutOfBoundsException, IllegalStateException {
        if (!machine.store.isThere(n) || c < 0 || c >= machine.cellsOfThing(n)) {
            throw new IndexOutOfBoundsException();
        }
        int cell = (int) machine.store.inRow(machine.store.rowOfThing(n), 0) + c;
        if (machine.store.sortAt(cell) == 0) {
            throw new IllegalStateException();
        }
        return machine.store.numberAt(cell);
    }

    public int out(int i) throws IndexOutOfBoundsException {
        if (i < 0 || i >= MOST_KEPT || i >= machine.written) {
            throw new IndexOutOfBoundsException();
        }
        return machine.out[i] & 255;
    }

    /** A row of numbers that grows. */
    private static final class Row {
        private int[] items;
        private int size;

        Row(int room) {
            items = new int[room < 4 ? 4 : room];
        }

        void add(int number) {
            if (size >= items.length) {
                items = Arrays.copyOf(items, 2 * items.length);
            }
            items[size] = number;
            size++;
        }

        /** Two numbers between those that are there. */
        void insert(int at, int a, int b) {
            add(0);
            add(0);
            for (int i = size - 1; i >= at + 2 && i >= 2; i--) {
                items[i] = items[i - 2];
            }
            set(at, a);
            set(at + 1, b);
        }

        int get(int i) {
            return i >= 0 && i < size ? items[i] : 0;
        }

        void set(int i, int number) {
            if (i >= 0 && i < size) {
                items[i] = number;
            }
        }

        int size() {
            return size;
        }

        void cut(int n) {
            if (n >= 0 && n < size) {
                size = n;
            }
        }
    }

    /** The words of the tape, one at a time, and the numbers of its names. */
    private static final class Words {
        private final byte[] tape;
        private final Row texts;
        private final byte[] letters = new byte[MOST_LETTERS];
        private final int[] begins = new int[MOST_NAMES + 1];
        private final int[] others = new int[MOST_NAMES];
        private final int[] heads = new int[256];
        private int names;
        private final int firstNames;
        private int length;
        private int at;
        private int kind;
        private int place;
        private int number;
        private int textAt;
        private int textLength;
        private int noted;       // the kind of the first fault at this word, as far as it was looked at; 0 if none
        private int faultCode;
        private int faultPlace;

        Words(byte[] tape, Row texts) {
            this.tape = tape;
            this.texts = texts;
            Arrays.fill(heads, NONE);
            keepAll(KEPT_NAMES);
            keepAll(TOLD_NAMES);
            firstNames = names;
        }

        private void keepAll(String list) {
            int from = 0;
            for (int i = 0; i < list.length(); i++) {
                if (list.charAt(i) == ' ') {
                    nameOf(i - from);
                    from = i + 1;
                } else {
                    keepLetter(i - from, list.charAt(i));
                }
            }
        }

        /** A new tape: the names of the one before are forgotten. */
        void open(int bytes) {
            for (int i = names - 1; i >= firstNames; i--) {
                heads[hash(begins[i], begins[i + 1])] = others[i];
            }
            names = firstNames;
            length = bytes;
            at = 0;
            noted = 0;
            faultCode = 0;
            faultPlace = 0;
        }

        /** A fault at this word, where another one may come that counts before it. */
        void note(int kind) {
            if (noted == 0 || kind < noted) {
                noted = kind;
            }
        }

        void fail(int kind, int where) {
            faultCode = kind >= 0 && kind < CODES.length ? CODES[kind] : 0;
            faultPlace = where;
            throw new IllegalStateException();
        }

        void next() {
            if (noted != 0) {
                fail(noted, place);
            }
            skip();
            place = at;
            int b = byteAt(at);
            if (b < 0) {
                kind = W_END;
            } else if (isLetter(b)) {
                readName();
            } else if (isDigit(b)) {
                readNumber();
            } else if (b == '\'') {
                readText();
            } else {
                readSign(b);
            }
        }

        private int byteAt(int i) {
            return i >= 0 && i < length && i < tape.length ? tape[i] & 255 : -1;
        }

        private static boolean isLetter(int b) {
            return b >= 'a' && b <= 'z' || b >= 'A' && b <= 'Z';
        }

        private static boolean isDigit(int b) {
            return b >= '0' && b <= '9';
        }

        private static int small(int b) {
            return b >= 'A' && b <= 'Z' ? b + 32 : b;
        }

        private void skip() {
            int note = NONE;
            for (int i = 0; i < MANY; i++) {
                int b = byteAt(at);
                boolean isPair = b == '*' && byteAt(at + 1) == ')' || b == '(' && byteAt(at + 1) == '*';
                if (note >= 0) {
                    if (b < 0) {
                        fail(NO_WORD, note);
                    }
                    boolean ends = b == '}' || b == '*' && isPair;
                    note = ends ? NONE : note;
                    at += ends && b == '*' ? 2 : 1;
                } else if (b == '{' || b == '(' && isPair) {
                    note = at;
                    at += isPair ? 2 : 1;
                } else if (b == 9 || b == 10 || b == 13 || b == 32) {
                    at++;
                } else {
                    return;
                }
            }
        }

        private void readName() {
            int n = 0;
            for (int i = 0; i < MANY; i++) {
                int b = byteAt(at);
                if (!isLetter(b) && !isDigit(b) && b != '_') {
                    break;
                }
                keepLetter(n, small(b));
                n++;
                at++;
            }
            if (n > MOST_NAME) {
                fail(NO_WORD, place);
            }
            number = nameOf(n);
            kind = number < N_KEPT ? W_KEPT + number : W_NAME;
        }

        private void keepLetter(int i, int b) {
            int to = begins[names] + i;
            if (to < letters.length) {
                letters[to] = (byte) b;
            }
        }

        /** The number of the name whose letters were kept last. */
        private int nameOf(int n) {
            int from = begins[names];
            int to = from + n < letters.length ? from + n : letters.length;
            int h = hash(from, to);
            int name = heads[h];
            for (int i = 0; i < MANY && name >= 0; i++) {
                if (isName(name, from, to)) {
                    return name;
                }
                name = others[name];
            }
            if (names >= MOST_NAMES - 1) {
                return names;
            }
            others[names] = heads[h];
            heads[h] = names;
            names++;
            begins[names] = to;
            return names - 1;
        }

        private int hash(int from, int to) {
            int h = 0;
            for (int i = from; i < to && i < letters.length; i++) {
                h = h * 31 + letters[i];
            }
            return h & 255;
        }

        private boolean isName(int name, int from, int to) {
            int first = begins[name];
            if (begins[name + 1] - first != to - from) {
                return false;
            }
            for (int i = 0; i < to - from; i++) {
                if (letters[first + i] != letters[from + i]) {
                    return false;
                }
            }
            return true;
        }

        private void readNumber() {
            long n = readDigits(10);
            if (byteAt(at) == '#') {
                at++;
                n = byteAt(at) >= 0 && n >= 2 && n <= 36 ? readDigits((int) n) : -1;
            }
            int b = byteAt(at);
            if (n < 0 || n > MAXINT || isLetter(b) || isDigit(b)) {
                fail(NO_WORD, place);
            }
            number = (int) n;
            kind = W_NUMBER;
        }

        /** The digits from here on, or -1 if there are none; what is too much stays too much. */
        private long readDigits(int base) {
            long n = -1;
            for (int i = 0; i < MANY; i++) {
                int b = byteAt(at);
                int digit = isDigit(b) ? b - '0' : isLetter(b) ? small(b) - 'a' + 10 : base;
                if (digit >= base) {
                    break;
                }
                n = (n < 0 ? 0 : n) * base + digit;
                n = n > MAXINT ? 1L + MAXINT : n;
                at++;
            }
            return n;
        }

        private void readText() {
            textAt = texts.size();
            int i = at + 1;
            boolean open = true;
            for (int turn = 0; turn < MANY && open; turn++) {
                int b = byteAt(i);
                if (b < 32) {
                    fail(NO_WORD, place);
                }
                if (b == '\'' && byteAt(i + 1) != '\'') {
                    open = false;
                } else {
                    texts.add(b);
                    i += b == '\'' ? 1 : 0;
                }
                i++;
            }
            textLength = texts.size() - textAt;
            if (textLength < 1 || textLength > MOST_TEXT) {
                fail(NO_WORD, place);
            }
            number = texts.get(textAt);
            kind = W_TEXT;
            at = i;
        }

        private void readSign(int b) {
            int which = SIGNS.indexOf((char) b);
            if (which < 0) {
                fail(NO_WORD, place);
            }
            kind = W_PLUS + which;
            int next = byteAt(at + 1);
            at++;
            int longer = 0;
            if (b == '<' && next == '>') {
                longer = W_UNEQUAL;
            } else if (b == '<' && next == '=') {
                longer = W_AT_MOST;
            } else if (b == '>' && next == '=') {
                longer = W_AT_LEAST;
            } else if (b == ':' && next == '=') {
                longer = W_BECOMES;
            } else if (b == '.' && next == '.') {
                longer = W_DOTS;
            }
            if (longer != 0) {
                kind = longer;
                at++;
            }
        }
    }

    /** What a name means. */
    private static final class Symbol {
        private final int name;
        private final int kind;
        private Type type;
        private int number;      // of a constant (of a text: where it is), a field, a known name, a discriminant
        private int textLength;  // of a constant that is a text
        private int level;
        private int slot;
        private int mode;
        private Routine routine;
        private Symbol outer;    // what the name meant before
        private Part part;       // of a field
        private boolean isTag;
        private int offset;      // of a field in its record, as last laid out

        Symbol(int name, int kind) {
            this.name = name;
            this.kind = kind;
        }
    }

    /** Fields of a record that stand together: its own, or those of a variant. */
    private static final class Part {
        private final Type record;
        private final Part outer;
        private final int variant;
        private final ArrayList<Symbol> fields = new ArrayList<>();
        private Symbol tag;
        private Row ranges;      // low, high, variant: what the tag's numbers mean
        private int behind;      // where its variants begin, as last laid out
        private int last;        // where the greatest of them ends

        Part(Type record, Part outer, int variant) {
            this.record = record;
            this.outer = outer;
            this.variant = variant;
        }

        /** Numbers that no constant names count as one variant. */
        int variantOf(long n) {
            if (ranges == null) {
                return NONE;
            }
            for (int i = 0; i + 2 < ranges.size(); i += 3) {
                if (n >= ranges.get(i) && n <= ranges.get(i + 1)) {
                    return ranges.get(i + 2);
                }
            }
            return NONE;
        }
    }

    /** A type; one that hangs has sums of discriminants in it. */
    private static final class Type {
        private final int kind;
        private final int id;
        private Type host;       // of an ordinal
        private Type of;         // of a set, an array, a pointer; of a schema and of one that is given: its type
        private Type index;
        private Type schema;     // of one that is given, and of the schema itself
        private int low;         // of an ordinal
        private int high;        // of an ordinal; a string's capacity
        private int lowSum;
        private int highSum;
        private int[] given;     // the values of a schema, as far as they are KNOWN
        private int[] givenSums;
        private ArrayList<Symbol> names;  // a record's fields, a schema's discriminants
        private ArrayList<Part> parts;
        private boolean hangs;
        private boolean isMadeLate;       // a var's, whose values are worked out when it is made
        private boolean isUnsound;
        private int cells;
        private int tall = 1;
        private int pieces = 1;
        private boolean isLaidOut;        // of a record that hangs: its fields' offsets, for these discriminants
        private long[] laidOutFor;

        Type(int kind, int id) {
            this.kind = kind;
            this.id = id;
        }

        boolean isOrdinal() {
            return kind <= T_SPAN;
        }

        boolean isScalar() {
            return kind <= T_SET || kind == T_POINTER;
        }

        /** A schema's variables are used as what the schema tells. */
        Type body() {
            return (kind == T_GIVEN || kind == T_SCHEMA) && of != null ? of : this;
        }

        Type hostOfMembers() {
            return of == null ? null : of.host;
        }

        int sort() {
            if (isOrdinal()) {
                return host == null ? 0 : 4 * host.id;
            }
            if (kind == T_SET) {
                return of == null || of.host == null ? 0 : 4 * of.host.id + 1;
            }
            return 4 * id + 2;
        }
    }

    /** A routine, or the program itself. */
    private static final class Routine {
        private final int number;
        private final int place;
        private final int level;          // of the block that tells it
        private final boolean isFunction;
        private final ArrayList<Symbol> variables = new ArrayList<>();
        private Type result;
        private int params;
        private int resultSlot;
        private int withs;
        private int entry;
        private int waitingRoutines;      // forward ones of its block without their block
        private boolean isWaiting;

        Routine(int number, int place, int level, boolean isFunction) {
            this.number = number;
            this.place = place;
            this.level = level;
            this.isFunction = isFunction;
        }

        int rows() {
            return variables.size() + withs;
        }
    }

    /** What a factor or a sum is, while it is read. */
    private static final class Item {
        private Type type;
        private int form;
        private int place;       // where it goes wrong, if it is UNDEFINED or too much
        private boolean isKnown;
        private boolean hangs;
        private boolean isText;  // a constant that is a text, alone
        private int number;      // of a constant; where a text is; the row of a with
        private int textLength;
        private int sum;
        private boolean isProtected;
        private Symbol tag;      // of a variable that is a tag

        Item(Type type, int form, int place) {
            this.type = type;
            this.form = form;
            this.place = place;
        }
    }

    /** A text that was read: its code, types, routines; and what its sums and sizes come to. */
    private static final class Program {
        private final Row code = new Row(4096);
        private final Row sums = new Row(256);
        private final Row texts = new Row(256);
        private final ArrayList<Type> types = new ArrayList<>();
        private final ArrayList<Symbol> fields = new ArrayList<>();
        private final ArrayList<Routine> routines = new ArrayList<>();
        private final Type none = new Type(T_NIL, 0);
        private final Type integer;
        private final Type bool;
        private final Type character;
        private final Type text;
        private final Type nil;
        private final Type emptySet;
        private final Symbol noField = new Symbol(NONE, S_FIELD);
        private final Routine noRoutine = new Routine(0, NONE, 0, false);
        private final long[] operands = new long[256];
        private final long[] given = new long[MOST_NESTED * MOST_DISCRIMINANTS];
        private final int firstTypes;

        Program() {
            types.add(none);
            integer = newOrdinal(T_INTEGER, -MAXINT, MAXINT);
            bool = newOrdinal(T_BOOLEAN, 0, 1);
            character = newOrdinal(T_CHAR, 0, 255);
            text = newType(T_STRING);
            nil = newType(T_NIL);
            emptySet = newType(T_SET);
            firstTypes = types.size();
            noField.type = none;
            sums.add(0);
        }

        void clear() {
            code.cut(0);
            sums.cut(1);
            texts.cut(0);
            fields.clear();
            routines.clear();
            for (int i = types.size() - 1; i >= firstTypes && i < types.size(); i--) {
                types.remove(i);
            }
        }

        private Type newType(int kind) {
            Type t = new Type(kind, types.size());
            types.add(t);
            t.host = none;
            return t;
        }

        private Type newOrdinal(int kind, int low, int high) {
            Type t = newType(kind);
            t.host = t;
            t.low = low;
            t.high = high;
            t.cells = 1;
            return t;
        }

        Routine newRoutine(int place, int level, boolean isFunction) {
            Routine r = new Routine(routines.size(), place, level, isFunction);
            r.result = none;
            routines.add(r);
            return r;
        }

        Type typeAt(int i) {
            return i >= 0 && i < types.size() ? types.get(i) : none;
        }

        Symbol fieldAt(int i) {
            return i >= 0 && i < fields.size() ? fields.get(i) : noField;
        }

        Routine routineAt(int i) {
            return i >= 0 && i < routines.size() ? routines.get(i) : noRoutine;
        }

        int discriminantsOf(Type t) {
            return t.schema == null || t.schema.names == null ? 0 : t.schema.names.size();
        }

        /** Keeps the code from there on as a sum of discriminants. */
        int keepSum(int from) {
            int sum = sums.size();
            sums.add(code.size() - from);
            for (int i = from; i < code.size(); i++) {
                sums.add(code.get(i));
            }
            return sum;
        }

        /** The number, or what a KNOWN sum comes to with the discriminants in the row from there on, or NO_NUMBER. */
        long workOut(int number, int sum, long[] row, int at) {
            if (sum == 0) {
                return number;
            }
            int n = 0;
            int i = sum + 1;
            int behind = i + sums.get(sum);
            for (int turn = 0; turn < MANY && i < behind; turn++) {
                int op = sums.get(i);
                long right = n > 0 ? operands[n - 1] : 0;
                if (op == CONST || op == DISCRIMINANT) {
                    if (n >= operands.length) {
                        return NO_NUMBER;
                    }
                    operands[n] = op == CONST ? sums.get(i + 1) : inRow(row, at + sums.get(i + 1));
                    n++;
                    i += 2;
                } else if (op >= ADD) {
                    if (n < 2) {
                        return NO_NUMBER;
                    }
                    n--;
                    operands[n - 1] = ofTwo(op, operands[n - 1], right);
                    i += 2;
                } else {
                    if (n < 1) {
                        return NO_NUMBER;
                    }
                    operands[n - 1] = ofOne(op, right, sums.get(i + 1));
                    i += op == CHR ? 2 : op == SUCC || op == PRED ? 3 : 1;
                }
                if (operands[n - 1] == NO_NUMBER) {
                    return NO_NUMBER;
                }
            }
            return n == 1 ? operands[0] : NO_NUMBER;
        }

        private static long inRow(long[] row, int i) {
            return i >= 0 && i < row.length ? row[i] : 0;
        }

        static long ofOne(int op, long a, int limit) {
            switch (op) {
                case NEGATE: return -a;
                case NOT: return 1 - a;
                case CHR: return a >= 0 && a <= 255 ? a : NO_NUMBER;
                case SUCC: return a < limit ? a + 1 : NO_NUMBER;
                case PRED: return a > limit ? a - 1 : NO_NUMBER;
                default: return NO_NUMBER;
            }
        }

        static long ofTwo(int op, long a, long b) {
            switch (op) {
                case ADD: return a + b > MAXINT || a + b < -MAXINT ? NO_NUMBER : a + b;
                case SUBTRACT: return a - b > MAXINT || a - b < -MAXINT ? NO_NUMBER : a - b;
                case MULTIPLY: return a * b > MAXINT || a * b < -MAXINT ? NO_NUMBER : a * b;
                case DIVIDE: return b == 0 ? NO_NUMBER : a / b;
                case MODULO: return b <= 0 ? NO_NUMBER : Math.floorMod(a, b);
                case AND: return a & b;
                case OR: return a | b;
                case EQUAL: return a == b ? 1 : 0;
                case UNEQUAL: return a != b ? 1 : 0;
                case LESS: return a < b ? 1 : 0;
                case GREATER: return a > b ? 1 : 0;
                case AT_MOST: return a <= b ? 1 : 0;
                case AT_LEAST: return a >= b ? 1 : 0;
                default: return NO_NUMBER;
            }
        }

        static long ofTwoSets(int op, long a, long b) {
            switch (op) {
                case ALL_OF: return a | b;
                case LESS_OF: return a & ~b;
                case COMMON_OF: return a & b;
                case PART_OF: return (a & ~b) == 0 ? 1 : 0;
                case WHOLE_OF: return (b & ~a) == 0 ? 1 : 0;
                default: return a >= 0 && a <= MOST_MEMBER && (b >>> a & 1) != 0 ? 1 : 0;
            }
        }

        /** Whether a variable of this type (an ordinal, a set, a pointer) can have the number. */
        boolean canHave(Type t, long n, long[] row, int at) {
            if (t.isOrdinal()) {
                return n >= workOut(t.low, t.lowSum, row, at) && n <= workOut(t.high, t.highSum, row, at);
            }
            if (t.kind != T_SET || t.of == null) {
                return true;
            }
            long low = workOut(t.of.low, t.of.lowSum, row, at);
            long high = workOut(t.of.high, t.of.highSum, row, at);
            if (low < 0 || low > high || high > MOST_MEMBER) {
                return false;
            }
            long all = -1L << low & -1L >>> MOST_MEMBER - high;
            return (n & ~all) == 0;
        }

        /** Works out the values of a schema that is given, and whether its discriminants can have them. */
        boolean giveValues(Type t, long[] row, int at, long[] to, int toAt) {
            int n = discriminantsOf(t);
            if (t.given == null || t.givenSums == null || toAt < 0 || toAt + MOST_DISCRIMINANTS > to.length) {
                return false;
            }
            for (int i = 0; i < n && i < t.given.length && i < t.givenSums.length; i++) {
                long v = workOut(t.given[i], t.givenSums[i], row, at);
                Type d = t.schema.names.get(i).type;
                if (v == NO_NUMBER || v < d.low || v > d.high) {
                    return false;
                }
                to[toAt + i] = v;
            }
            return true;
        }

        /** A reference that went to a part of this type: a schema that is given brings its own discriminants. */
        void enter(Type t, long[] row, int at) {
            if (t.kind == T_GIVEN && at >= 0 && at + MOST_DISCRIMINANTS <= row.length && giveValues(t, row, at, given, 0)) {
                for (int i = 0; i < MOST_DISCRIMINANTS; i++) {
                    row[at + i] = given[i];
                }
            }
        }

        /** How many cells a part of this type has, or -1 if the type may not be so. */
        private int cellsOf(Type t, long[] row, int at, int nested) {
            if (!t.hangs) {
                return t.isUnsound ? -1 : t.cells;
            }
            if (nested >= MOST_NESTED) {
                return -1;
            }
            switch (t.kind) {
                case T_SPAN: return spanned(t, row, at) >= 0 ? 1 : -1;
                case T_SET: return t.of != null && spanned(t.of, row, at) >= 0 && workOut(t.of.low, t.of.lowSum, row, at) >= 0 && workOut(t.of.high, t.of.highSum, row, at) <= MOST_MEMBER ? 1 : -1;
                case T_STRING: return cellsOfString(workOut(t.high, t.highSum, row, at));
                case T_ARRAY: return cellsOfArray(t, row, at, nested);
                case T_RECORD: return cellsOfRecord(t, row, at, nested);
                case T_GIVEN:
                    int to = nested * MOST_DISCRIMINANTS;
                    return t.of != null && giveValues(t, row, at, given, to) ? cellsOf(t.of, given, to, nested + 1) : -1;
                default: return -1;
            }
        }

        static int cellsOfString(long capacity) {
            return capacity >= 1 && capacity <= MOST_TEXT ? 1 + (int) capacity : -1;
        }

        /** How many numbers an ordinal has, or -1 if it may not be so. */
        private long spanned(Type t, long[] row, int at) {
            long low = workOut(t.low, t.lowSum, row, at);
            long high = workOut(t.high, t.highSum, row, at);
            return low == NO_NUMBER || high == NO_NUMBER || low > high ? -1 : high - low + 1;
        }

        private int cellsOfArray(Type t, long[] row, int at, int nested) {
            if (t.index == null || t.of == null) {
                return -1;
            }
            long count = spanned(t.index, row, at);
            if (count < 0 || count > MOST_CELLS) {
                return -1;
            }
            long cells = count * cellsOf(t.of, row, at, nested + 1);
            return cells < 0 || cells > MOST_CELLS ? -1 : (int) cells;
        }

        /** Lays the record out for these discriminants, if it is not so already. */
        private int cellsOfRecord(Type t, long[] row, int at, int nested) {
            if (t.parts == null || t.hangs && isLaidOut(t, row, at)) {
                return t.cells;
            }
            t.isLaidOut = false;
            for (int i = 0; i < t.parts.size(); i++) {
                Part p = t.parts.get(i);
                long behind = p.outer == null ? 0 : p.outer.behind;
                for (int j = 0; j < p.fields.size(); j++) {
                    Symbol f = p.fields.get(j);
                    int cells = cellsOf(f.type, row, at, nested + 1);
                    if (cells < 0 || behind > MAXINT / 2) {
                        return -1;
                    }
                    f.offset = (int) behind;
                    behind += cells;
                }
                if (p.tag != null) {
                    p.tag.offset = (int) behind;
                    behind++;
                }
                p.behind = (int) behind;
                p.last = (int) behind;
            }
            return cellsOfParts(t, row, at);
        }

        /** How many cells a record has whose parts are laid out, each behind the one in which it stands. */
        private static int cellsOfParts(Type t, long[] row, int at) {
            int cells = 0;
            for (int i = t.parts.size() - 1; i >= 0; i--) {
                Part p = t.parts.get(i);
                if (p.outer != null && p.outer.last < p.last) {
                    p.outer.last = p.last;
                }
                cells = p.last;
            }
            if (cells > MOST_CELLS) {
                return -1;
            }
            t.cells = cells;
            t.isLaidOut = t.laidOutFor != null;
            for (int i = 0; t.isLaidOut && i < t.laidOutFor.length; i++) {
                t.laidOutFor[i] = inRow(row, at + i);
            }
            return cells;
        }

        private static boolean isLaidOut(Type t, long[] row, int at) {
            if (!t.isLaidOut || t.laidOutFor == null) {
                return false;
            }
            for (int i = 0; i < t.laidOutFor.length; i++) {
                if (t.laidOutFor[i] != inRow(row, at + i)) {
                    return false;
                }
            }
            return true;
        }
    }

    /** Reads a text whole, by its grammar, from the left, and leaves at the first fault. */
    private static final class Reader {
        private final Words words;
        private final Program program;
        private final Row code;
        private final Symbol[] tops = new Symbol[MOST_NAMES];
        private final ArrayList<Symbol> scope = new ArrayList<>();
        private final ArrayList<Item> withs = new ArrayList<>();
        private final ArrayList<Type> pointers = new ArrayList<>(); // those whose name is not told yet
        private final Row pointed = new Row(16);                    // name, place of each of these
        private final Row ranges = new Row(16);                     // of the case statements that are open
        private ArrayList<Symbol> discriminants;                    // of the schema that is told
        private Item foundWith;
        private boolean inTypes;
        private int withFields;
        private int level;
        private Routine routine;

        Reader(Words words, Program program) {
            this.words = words;
            this.program = program;
            this.code = program.code;
            this.routine = program.noRoutine;
            knowAtFirst();
        }

        private void knowAtFirst() {
            know(N_INTEGER, S_TYPE, program.integer, 0);
            know(N_BOOLEAN, S_TYPE, program.bool, 0);
            know(N_CHAR, S_TYPE, program.character, 0);
            know(N_TRUE, S_CONSTANT, program.bool, 1);
            know(N_FALSE, S_CONSTANT, program.bool, 0);
            know(N_MAXINT, S_CONSTANT, program.integer, MAXINT);
            for (int name = N_ABS; name <= N_EOF; name++) {
                know(name, S_KNOWN_FUNCTION, program.none, name);
            }
            for (int name = N_NEW; name <= N_HALT; name++) {
                know(name, S_KNOWN_PROCEDURE, program.none, name);
            }
        }

        private void know(int name, int kind, Type type, int number) {
            Symbol s = new Symbol(name, kind);
            s.type = type;
            s.number = number;
            s.level = NONE;
            tops[name] = s;
        }

        /** Forgets the text before. */
        void open() {
            leaveTo(0);
            withs.clear();
            pointers.clear();
            pointed.cut(0);
            ranges.cut(0);
            discriminants = null;
            inTypes = false;
            withFields = 0;
            level = 0;
        }

        private void readWhole() {
            words.next();
            int place = words.place;
            expect(W_PROGRAM);
            routine = program.newRoutine(place, 0, false);
            expect(W_NAME);
            expect(W_SEMICOLON);
            readRule(R_BLOCK, 0);
            expect(W_DOT);
            if (words.kind != W_END) {
                fail(MISPLACED);
            }
        }

        /** Of all that was noted at this word the first one counts. */
        private void fail(int kind) {
            words.note(kind);
            words.fail(words.noted, words.place);
        }

        private void expect(int kind) {
            need(kind);
            words.next();
        }

        private void need(int kind) {
            if (words.kind != kind) {
                fail(MISPLACED);
            }
        }

        private int deeper(int depth) {
            if (depth >= MOST_DEEP) {
                fail(TOO_MUCH);
            }
            return depth + 1;
        }

        private void emit(int op) {
            code.add(op);
        }

        private void emit(int op, int a) {
            code.add(op);
            code.add(a);
        }

        private void emit(int op, int a, int b) {
            emit(op, a);
            code.add(b);
        }

        private void emit(int op, int a, int b, int c) {
            emit(op, a, b);
            code.add(c);
        }

        /** Lets all the jumps that hang together, the last one first, lead here. */
        private void jumpHere(int last) {
            int at = last;
            for (int i = 0; i < MANY && at > 0; i++) {
                int before = code.get(at);
                code.set(at, code.size());
                at = before;
            }
        }

        // ---- what names mean

        private void tell(Symbol s) {
            s.level = level;
            if (s.name >= 0 && s.name < tops.length) {
                s.outer = tops[s.name];
                tops[s.name] = s;
                scope.add(s);
            }
        }

        private void leaveTo(int mark) {
            for (int i = scope.size() - 1; i >= mark && i < scope.size(); i--) {
                Symbol s = scope.remove(i);
                tops[s.name] = s.outer;
            }
        }

        private Symbol topOf(int name) {
            return name >= 0 && name < tops.length ? tops[name] : null;
        }

        private boolean isHere(int name) {
            Symbol s = topOf(name);
            return s != null && s.level == level;
        }

        /** What the name that stands here means; null if it is not known. */
        private Symbol meaning() {
            foundWith = null;
            if (words.kind != W_NAME) {
                return null;
            }
            if (discriminants != null) {
                Symbol d = named(discriminants, words.number);
                if (d != null) {
                    return d;
                }
            }
            for (int i = withs.size() - 1; i >= 0; i--) {
                Item with = withs.get(i);
                Symbol f = named(with.type.body().names, words.number);
                if (f != null) {
                    foundWith = with;
                    return f;
                }
            }
            return topOf(words.number);
        }

        private static Symbol named(ArrayList<Symbol> list, int name) {
            if (list != null) {
                for (int i = 0; i < list.size(); i++) {
                    if (list.get(i).name == name) {
                        return list.get(i);
                    }
                }
            }
            return null;
        }

        private boolean isVariable(Symbol s) {
            return s != null && (s.kind == S_VARIABLE || s.kind == S_FIELD);
        }

        /** A name that is told here: neither this block nor the list may have it. */
        private int readNew(ArrayList<Symbol> list) {
            need(W_NAME);
            int name = words.number;
            if (isHere(name) || named(list, name) != null) {
                fail(TOLD_TWICE);
            }
            words.next();
            return name;
        }

        private Type readTypeName() {
            need(W_NAME);
            Symbol s = meaning();
            if (s == null || s.kind != S_TYPE) {
                fail(UNKNOWN);
                return program.none;
            }
            words.next();
            return s.type;
        }

        /** What the grammar calls so: a text, a block, statements or a sum, standing so deep. */
        private Item readRule(int rule, int depth) {
            switch (rule) {
                case R_TEXT: readWhole(); break;
                case R_BLOCK: readBlock(depth); break;
                case R_STATEMENTS: readStatements(depth); break;
                default: return readSum0(depth);
            }
            return new Item(program.none, VALUE, words.place);
        }

        // ---- blocks

        private void readBlock(int depth) {
            for (int i = 0; i < MANY; i++) {
                if (words.kind == W_CONST) {
                    readConstants(depth);
                } else if (words.kind == W_TYPE) {
                    readTypes(depth);
                } else if (words.kind == W_VAR) {
                    readVariables(depth);
                } else if (words.kind == W_PROCEDURE || words.kind == W_FUNCTION) {
                    readRoutine(depth);
                } else {
                    break;
                }
            }
            need(W_BEGIN);
            if (routine.waitingRoutines > 0) {
                fail(NO_BLOCK);
            }
            if (routine.isFunction) {
                addResult();
            }
            words.next();
            readRule(R_STATEMENTS, depth);
            expect(W_FINISH);
            emit(LEAVE);
        }

        private void addResult() {
            Symbol result = new Symbol(NONE, S_VARIABLE);
            result.type = routine.result;
            routine.resultSlot = routine.variables.size();
            routine.variables.add(result);
        }

        private void readConstants(int depth) {
            words.next();
            need(W_NAME);
            for (int i = 0; i < MANY && words.kind == W_NAME; i++) {
                Symbol s = new Symbol(readNew(null), S_CONSTANT);
                expect(W_EQUAL);
                Item x = readConstant(depth);
                s.type = x.isText ? program.text : x.type.host;
                s.number = x.number;
                s.textLength = x.textLength;
                tell(s);
                expect(W_SEMICOLON);
            }
        }

        private void readTypes(int depth) {
            words.next();
            need(W_NAME);
            inTypes = true;
            for (int i = 0; i < MANY && words.kind == W_NAME; i++) {
                Symbol s = new Symbol(readNew(null), S_TYPE);
                if (words.kind == W_OPEN) {
                    s.type = readSchema(depth);
                } else {
                    expect(W_EQUAL);
                    s.type = sound(readType(deeper(depth), ANY, false));
                }
                if (isHere(s.name)) {
                    fail(TOLD_BY_TYPE);
                }
                tell(s);
                expect(W_SEMICOLON);
            }
            inTypes = false;
            findPointed();
        }

        private void findPointed() {
            for (int i = 0; i < pointers.size(); i++) {
                Symbol s = topOf(pointed.get(2 * i));
                if (s == null || s.kind != S_TYPE) {
                    words.fail(UNKNOWN, pointed.get(2 * i + 1));
                    return;
                }
                pointers.get(i).of = s.type;
            }
            pointers.clear();
            pointed.cut(0);
        }

        private Type readSchema(int depth) {
            Type t = program.newType(T_SCHEMA);
            t.schema = t;
            t.names = new ArrayList<>();
            for (int i = 0; i < MANY; i++) {
                words.next();
                readDiscriminants(t);
                if (words.kind != W_SEMICOLON) {
                    break;
                }
            }
            expect(W_CLOSE);
            expect(W_EQUAL);
            discriminants = t.names;
            Type body = sound(readType(deeper(depth), STRUCTURE, false));
            discriminants = null;
            t.of = body;
            t.tall = body.tall;
            t.pieces = body.pieces;
            return t;
        }

        private void readDiscriminants(Type schema) {
            int first = schema.names.size();
            for (int i = 0; i < MANY; i++) {
                need(W_NAME);
                if (named(schema.names, words.number) != null) {
                    fail(TOLD_TWICE);
                }
                Symbol d = new Symbol(words.number, S_DISCRIMINANT);
                d.number = schema.names.size();
                schema.names.add(d);
                words.next();
                if (words.kind != W_COMMA) {
                    break;
                }
                words.next();
            }
            expect(W_COLON);
            Type t = readTypeName();
            if (schema.names.size() > MOST_DISCRIMINANTS) {
                fail(TOO_MUCH);
            }
            if (!t.isOrdinal()) {
                fail(NOT_KNOWN);
            }
            typeAll(schema.names, first, t);
        }

        private static void typeAll(ArrayList<Symbol> list, int first, Type t) {
            for (int i = first; i >= 0 && i < list.size(); i++) {
                list.get(i).type = t;
            }
        }

        private void readVariables(int depth) {
            words.next();
            need(W_NAME);
            for (int i = 0; i < MANY && words.kind == W_NAME; i++) {
                readVariablesOfType(depth);
                expect(W_SEMICOLON);
            }
        }

        private void readVariablesOfType(int depth) {
            ArrayList<Symbol> list = new ArrayList<>();
            readNames(list, S_VARIABLE);
            int first = routine.variables.size();
            int begin = code.size();
            emit(FIRST_NAME, first);
            Type t = sound(readType(deeper(depth), ANY, true));
            if (t.kind == T_GIVEN && list.size() > MOST_SHARING) {
                fail(TOO_SHARED);
            }
            for (int i = 0; i < list.size(); i++) {
                if (isHere(list.get(i).name)) {
                    fail(TOLD_BY_TYPE);
                }
            }
            if (t.isMadeLate) {
                emit(MAKE_GIVEN, t.id);
                emit(NEXT_NAME, first + list.size() - 1, begin + 2);
            } else {
                code.cut(begin);
            }
            Item x = words.kind == W_VALUE ? readInitial(t, depth) : null;
            for (int i = 0; i < list.size(); i++) {
                addVariable(list.get(i), t, x);
            }
        }

        /** Names with commas between them, which are told later. */
        private void readNames(ArrayList<Symbol> list, int kind) {
            for (int i = 0; i < MANY; i++) {
                list.add(new Symbol(readNew(list), kind));
                if (words.kind != W_COMMA) {
                    break;
                }
                words.next();
            }
            expect(W_COLON);
        }

        private Item readInitial(Type t, int depth) {
            words.next();
            Item x = readConstant(depth);
            boolean fits = t.kind == T_STRING ? x.isText || x.type.host == program.character
                    : !x.isText && t.isOrdinal() && x.type.host == t.host;
            if (!fits) {
                fail(MISFIT);
            }
            int length = x.isText ? x.textLength : 1;
            if (t.kind == T_STRING ? length > t.high : x.number < t.low || x.number > t.high) {
                fail(IMPOSSIBLE);
            }
            if (t.kind == T_STRING && !x.isText) {
                int at = program.texts.size();
                program.texts.add(x.number);
                x.number = at;
                x.textLength = 1;
            }
            return x;
        }

        private void addVariable(Symbol s, Type t, Item initial) {
            s.type = t;
            s.slot = routine.variables.size();
            s.mode = OWN;
            routine.variables.add(s);
            tell(s);
            if (!t.isMadeLate) {
                emit(MAKE, s.slot);
            }
            if (initial != null && t.kind == T_STRING) {
                emit(GIVE_TEXT, s.slot, initial.number, initial.textLength);
            } else if (initial != null) {
                emit(GIVE, s.slot, initial.number);
            }
        }

        private void readRoutine(int depth) {
            int inside = deeper(depth);
            boolean isFunction = words.kind == W_FUNCTION;
            words.next();
            need(W_NAME);
            Symbol s = topOf(words.number);
            Routine r;
            if (s != null && s.level == level) {
                if (s.kind != S_ROUTINE || !s.routine.isWaiting || s.routine.isFunction != isFunction) {
                    fail(TOLD_TWICE);
                }
                r = s.routine;
                words.next();
                expect(W_SEMICOLON);
                r.isWaiting = false;
                routine.waitingRoutines--;
            } else {
                r = tellRoutine(isFunction);
                if (words.kind == W_OPEN) {
                    readParams(r);
                }
                r.params = r.variables.size();
                readResult(r);
                expect(W_SEMICOLON);
                r.isWaiting = words.kind == W_FORWARD;
            }
            if (r.isWaiting) {
                words.next();
                routine.waitingRoutines++;
            } else {
                readBody(r, inside);
            }
            expect(W_SEMICOLON);
        }

        private Routine tellRoutine(boolean isFunction) {
            Routine r = program.newRoutine(words.place, level, isFunction);
            Symbol s = new Symbol(words.number, S_ROUTINE);
            s.routine = r;
            s.type = program.none;
            tell(s);
            words.next();
            return r;
        }

        private void readResult(Routine r) {
            if (r.isFunction) {
                expect(W_COLON);
                r.result = readTypeName();
                if (!r.result.isScalar() && r.result.kind != T_STRING) {
                    fail(MISFIT);
                }
            }
        }

        private void readParams(Routine r) {
            for (int i = 0; i < MANY; i++) {
                words.next();
                int mode = words.kind == W_VAR ? BY_VAR : words.kind == W_PROTECTED ? BY_PROTECTED : BY_VALUE;
                if (mode != BY_VALUE) {
                    words.next();
                }
                int first = r.variables.size();
                readParamNames(r, mode);
                expect(W_COLON);
                typeAll(r.variables, first, readTypeName());
                if (words.kind != W_SEMICOLON) {
                    break;
                }
            }
            expect(W_CLOSE);
        }

        private void readParamNames(Routine r, int mode) {
            for (int i = 0; i < MANY; i++) {
                need(W_NAME);
                if (r.variables.size() >= MOST_PARAMS) {
                    fail(TOO_MUCH);
                }
                if (named(r.variables, words.number) != null) {
                    fail(TOLD_TWICE);
                }
                Symbol p = new Symbol(words.number, S_VARIABLE);
                p.mode = mode;
                p.slot = r.variables.size();
                r.variables.add(p);
                words.next();
                if (words.kind != W_COMMA) {
                    break;
                }
                words.next();
            }
        }

        private void readBody(Routine r, int depth) {
            Routine outer = routine;
            int mark = scope.size();
            emit(JUMP, 0);
            int over = code.size() - 1;
            r.entry = code.size();
            routine = r;
            level++;
            for (int i = 0; i < r.params && i < r.variables.size(); i++) {
                tell(r.variables.get(i));
            }
            readBlock(depth);
            leaveTo(mark);
            level--;
            routine = outer;
            jumpHere(over);
        }

        // ---- types

        /** Reads a type that stands so deep; isWhole: of a var, so that any sums may be a schema's values. */
        private Type readType(int depth, int wanted, boolean isWhole) {
            switch (words.kind) {
                case W_NAME:
                    Symbol s = meaning();
                    return s != null && s.kind == S_TYPE ? readNamedType(s.type, depth, wanted, isWhole) : readSpan(depth, wanted);
                case W_OPEN: return readList(wanted);
                case W_ARRAY: return readArray(depth, wanted);
                case W_RECORD: return readRecord(depth, wanted);
                case W_SET: return readSet(depth, wanted);
                case W_CARET: return readPointer(wanted);
                case W_STRING: return readString(depth, wanted);
                default: return readSpan(depth, wanted);
            }
        }

        /** A type that may not be so is told of at the word behind all that ends with it. */
        private Type sound(Type t) {
            if (t.isUnsound) {
                fail(IMPOSSIBLE);
            }
            return t;
        }

        private Type wanted(Type t, int wanted) {
            if (t.tall > MOST_TALL || t.pieces > MOST_PIECES) {
                fail(TOO_MUCH);
            }
            if (wanted == ORDINAL && !t.isOrdinal()) {
                fail(NOT_KNOWN);
            }
            if (wanted == STRUCTURE && t.kind != T_ARRAY && t.kind != T_RECORD) {
                fail(MISFIT);
            }
            return t;
        }

        private Type readNamedType(Type t, int depth, int wanted, boolean isWhole) {
            words.next();
            if (t.kind != T_SCHEMA) {
                return wanted(t, wanted);
            }
            if (words.kind != W_OPEN) {
                fail(MISFIT);
            }
            return readGiven(t, depth, wanted, isWhole);
        }

        private Type readGiven(Type schema, int depth, int wanted, boolean isWhole) {
            Type t = program.newType(T_GIVEN);
            t.schema = schema;
            t.of = schema.of;
            t.given = new int[MOST_DISCRIMINANTS];
            t.givenSums = new int[MOST_DISCRIMINANTS];
            t.tall = schema.tall + 2;
            t.pieces = schema.pieces + 1;
            int begin = code.size();
            int n = program.discriminantsOf(t);
            for (int i = 0; i < n && i < MOST_DISCRIMINANTS; i++) {
                words.next();
                readGivenValue(t, i, depth, isWhole);
                checkMore(i < n - 1);
            }
            words.next();
            wanted(t, wanted);
            if (t.isMadeLate) {
                return t;
            }
            code.cut(begin);
            if (!t.hangs) {
                boolean isGiven = program.giveValues(t, program.given, 0, program.given, 0);
                t.cells = isGiven && t.of != null ? program.cellsOf(t.of, program.given, 0, 1) : -1;
                t.isUnsound = t.cells < 0;
            }
            return t;
        }

        private void readGivenValue(Type t, int i, int depth, boolean isWhole) {
            int begin = code.size();
            Item x = readSum(depth);
            load(x);
            if (!x.type.isOrdinal() || !isWhole && !x.isKnown) {
                fail(NOT_KNOWN);
            }
            if (x.isKnown) {
                workOut(x, begin);
            }
            if (x.type.host != t.schema.names.get(i).type.host) {
                fail(MISFIT);
            }
            t.given[i] = x.number;
            t.givenSums[i] = x.sum;
            t.hangs |= x.hangs;
            t.isMadeLate |= !x.isKnown;
        }

        /** Behind a value or param: a comma where one more must come, a bracket behind the last. */
        private void checkMore(boolean isMore) {
            if (words.kind == (isMore ? W_CLOSE : W_COMMA)) {
                fail(MISCOUNTED);
            }
            need(isMore ? W_COMMA : W_CLOSE);
        }

        private Type readList(int wanted) {
            Type t = program.newOrdinal(T_LIST, 0, 0);
            ArrayList<Symbol> list = new ArrayList<>();
            for (int i = 0; i < MANY; i++) {
                words.next();
                Symbol s = new Symbol(readNew(list), S_CONSTANT);
                s.type = t;
                s.number = i;
                list.add(s);
                if (words.kind != W_COMMA) {
                    break;
                }
            }
            need(W_CLOSE);
            t.high = list.size() - 1;
            for (int i = 0; i < list.size(); i++) {
                tell(list.get(i));
            }
            words.next();
            return wanted(t, wanted);
        }

        private Type readSpan(int depth, int wanted) {
            Type t = program.newType(T_SPAN);
            t.cells = 1;
            Item low = readOrdinalSum(depth);
            expect(W_DOTS);
            Item high = readOrdinalSum(depth);
            if (low.type.host != high.type.host) {
                words.note(MISFIT); // what the span is a part of may count before it
            }
            t.host = low.type.host;
            t.low = low.number;
            t.high = high.number;
            t.lowSum = low.sum;
            t.highSum = high.sum;
            t.hangs = low.hangs || high.hangs;
            t.isUnsound = !t.hangs && t.low > t.high;
            return wanted(t, wanted);
        }

        private Type readString(int depth, int wanted) {
            Type t = program.newType(T_STRING);
            words.next();
            expect(W_OPEN);
            Item capacity = readOrdinalSum(depth);
            if (capacity.type.host != program.integer) {
                fail(MISFIT);
            }
            expect(W_CLOSE);
            t.high = capacity.number;
            t.highSum = capacity.sum;
            t.hangs = capacity.hangs;
            t.cells = t.hangs ? 0 : Program.cellsOfString(t.high);
            t.isUnsound = t.cells < 0;
            return wanted(t, wanted);
        }

        private Type readSet(int depth, int wanted) {
            Type t = program.newType(T_SET);
            t.cells = 1;
            words.next();
            expect(W_OF);
            Type of = readType(deeper(depth), ANY, false);
            t.of = of;
            t.tall = of.tall + 1;
            t.hangs = of.hangs;
            if (!of.isOrdinal()) {
                words.note(NOT_KNOWN);
            }
            t.isUnsound = of.isUnsound || !t.hangs && (of.low < 0 || of.high > MOST_MEMBER);
            return wanted(t, wanted);
        }

        private Type readPointer(int wanted) {
            Type t = program.newType(T_POINTER);
            t.cells = 1;
            words.next();
            need(W_NAME);
            Symbol s = meaning();
            if (s == null && inTypes) {
                pointers.add(t);
                pointed.add(words.number);
                pointed.add(words.place);
            } else if (s == null || s.kind != S_TYPE) {
                fail(UNKNOWN);
            } else {
                t.of = s.type;
            }
            words.next();
            return wanted(t, wanted);
        }

        private Type readArray(int depth, int wanted) {
            ArrayList<Type> indices = new ArrayList<>();
            int at = depth;
            words.next();
            need(W_OPEN_SQUARE);
            for (int i = 0; i < MANY; i++) {
                words.next();
                at = deeper(at);
                Type index = sound(readType(at, ORDINAL, false));
                if (!index.hangs && (long) index.high - index.low >= MOST_CELLS) {
                    fail(IMPOSSIBLE);
                }
                indices.add(index);
                if (words.kind != W_COMMA) {
                    break;
                }
            }
            expect(W_CLOSE_SQUARE);
            expect(W_OF);
            Type t = readType(deeper(at - 1), ANY, false);
            for (int i = indices.size() - 1; i >= 0; i--) {
                t = newArray(indices.get(i), t);
            }
            return wanted(t, wanted);
        }

        private Type newArray(Type index, Type of) {
            Type t = program.newType(T_ARRAY);
            t.index = index;
            t.of = of;
            t.hangs = index.hangs || of.hangs;
            t.tall = of.tall + 1;
            t.pieces = of.pieces + 1;
            t.isUnsound = of.isUnsound;
            if (!t.hangs && !t.isUnsound) {
                long cells = ((long) index.high - index.low + 1) * of.cells;
                t.isUnsound = cells > MOST_CELLS;
                t.cells = t.isUnsound ? 0 : (int) cells;
            }
            return t;
        }

        private Type readRecord(int depth, int wanted) {
            Type t = program.newType(T_RECORD);
            t.names = new ArrayList<>();
            t.parts = new ArrayList<>();
            words.next();
            readFields(newPart(t, null, 0), depth, W_FINISH);
            expect(W_FINISH);
            wanted(t, wanted);
            if (t.hangs) {
                t.laidOutFor = new long[MOST_DISCRIMINANTS];
            } else {
                t.isUnsound = program.cellsOfRecord(t, program.given, 0, 0) < 0;
            }
            return t;
        }

        private static Part newPart(Type record, Part outer, int variant) {
            Part p = new Part(record, outer, variant);
            record.parts.add(p);
            return p;
        }

        private void readFields(Part part, int depth, int close) {
            for (int i = 0; i < MANY && words.kind == W_NAME; i++) {
                readFieldsOfType(part, depth);
                if (words.kind != W_SEMICOLON) {
                    return;
                }
                words.next();
            }
            if (words.kind == W_CASE) {
                readVariants(part, depth, close);
            }
        }

        private Symbol readField(Part part) {
            need(W_NAME);
            ArrayList<Symbol> names = part.record.names;
            if (named(names, words.number) != null) {
                fail(TOLD_TWICE);
            }
            Symbol f = new Symbol(words.number, S_FIELD);
            f.part = part;
            f.type = program.none;
            f.number = program.fields.size();
            program.fields.add(f);
            names.add(f);
            words.next();
            return f;
        }

        private void readFieldsOfType(Part part, int depth) {
            int first = part.fields.size();
            for (int i = 0; i < MANY; i++) {
                part.fields.add(readField(part));
                if (words.kind != W_COMMA) {
                    break;
                }
                words.next();
            }
            expect(W_COLON);
            Type t = sound(readType(deeper(depth), ANY, false));
            typeAll(part.fields, first, t);
            Type record = part.record;
            record.hangs |= t.hangs;
            record.tall = Math.max(record.tall, t.tall + 1);
            record.pieces += t.pieces * (part.fields.size() - first);
        }

        private void readVariants(Part part, int depth, int close) {
            words.next();
            Symbol tag = readField(part);
            expect(W_COLON);
            Type t = readTypeName();
            if (!t.isOrdinal()) {
                fail(NOT_KNOWN);
            }
            tag.type = t;
            tag.isTag = true;
            part.tag = tag;
            part.ranges = new Row(6);
            part.record.tall = Math.max(part.record.tall, 2);
            part.record.pieces++;
            expect(W_OF);
            int inside = deeper(depth);
            for (int i = 0; i < MANY; i++) {
                readVariant(part, i, inside);
                if (words.kind != W_SEMICOLON) {
                    return;
                }
                words.next();
                if (words.kind == close) {
                    return;
                }
            }
        }

        private void readVariant(Part part, int variant, int depth) {
            for (int i = 0; i < MANY; i++) {
                readRange(part.ranges, 0, part.tag.type, true, depth);
                part.ranges.add(variant);
                if (words.kind != W_COMMA) {
                    break;
                }
                words.next();
            }
            expect(W_COLON);
            expect(W_OPEN);
            readFields(newPart(part.record, part, variant), depth, W_CLOSE);
            expect(W_CLOSE);
        }

        /** Constants of a case: their numbers go behind the ranges, of which those from mark on are told already. */
        private void readRange(Row ranges, int mark, Type type, boolean isTag, int depth) {
            Item low = readConstant(depth);
            Item high = low;
            if (words.kind == W_DOTS) {
                words.next();
                high = readConstant(depth);
            }
            boolean fits = !low.isText && !high.isText && low.type.host == type.host && high.type.host == type.host
                    && low.number <= high.number;
            if (isTag) {
                fits &= low.number >= type.low && high.number <= type.high;
            }
            for (int i = mark; i + 2 < ranges.size() && fits; i += 3) {
                fits = high.number < ranges.get(i) || low.number > ranges.get(i + 1);
            }
            if (!fits) {
                fail(BAD_CASE);
            }
            ranges.add(low.number);
            ranges.add(high.number);
        }

        // ---- sums that must be KNOWN

        /** A constant: a KNOWN sum, or a text. */
        private Item readConstant(int depth) {
            int begin = code.size();
            Item x = readSum0(depth);
            load(x);
            if (!x.isText) {
                if (!x.isKnown || x.hangs || !x.type.isOrdinal()) {
                    fail(NOT_KNOWN);
                }
                workOut(x, begin);
            }
            code.cut(begin);
            return x;
        }

        /** A sum in a type. */
        private Item readOrdinalSum(int depth) {
            int begin = code.size();
            Item x = readSum(depth);
            load(x);
            if (!x.isKnown || !x.type.isOrdinal()) {
                fail(NOT_KNOWN);
            }
            workOut(x, begin);
            code.cut(begin);
            return x;
        }

        private void workOut(Item x, int begin) {
            x.number = 0;
            x.sum = program.keepSum(begin);
            if (x.hangs) {
                return;
            }
            long n = program.workOut(0, x.sum, program.given, 0);
            if (n == NO_NUMBER) {
                words.note(UNWORKABLE); // a type that ends with it may be too much, or no ordinal where one must stand
            } else {
                x.number = (int) n;
            }
            program.sums.cut(x.sum);
            x.sum = 0;
        }

        // ---- statements

        private void readStatements(int depth) {
            for (int i = 0; i < MANY; i++) {
                readStatement(deeper(depth));
                if (words.kind != W_SEMICOLON) {
                    return;
                }
                words.next();
            }
        }

        private void readStatement(int depth) {
            int place = words.place;
            switch (words.kind) {
                case W_NAME:
                    emit(STEP, place);
                    readNamedStatement(depth);
                    break;
                case W_BEGIN:
                    words.next();
                    readStatements(depth);
                    expect(W_FINISH);
                    break;
                case W_IF:
                    emit(STEP, place);
                    readIf(depth);
                    break;
                case W_WHILE:
                    emit(STEP, place);
                    readWhile(depth, place);
                    break;
                case W_REPEAT:
                    emit(STEP, place);
                    readRepeat(depth, place);
                    break;
                case W_FOR:
                    emit(STEP, place);
                    readFor(depth, place);
                    break;
                case W_CASE:
                    emit(STEP, place);
                    readCase(depth, place);
                    break;
                case W_WITH:
                    readWith(depth);
                    break;
                default:
                    break;
            }
        }

        private void readNamedStatement(int depth) {
            Symbol s = meaning();
            if (isVariable(s)) {
                readAssignment(readVariable(s, depth), depth);
            } else if (s != null && s.kind == S_KNOWN_PROCEDURE) {
                readKnownProcedure(s.number, depth);
            } else if (s != null && s.kind == S_ROUTINE && !s.routine.isFunction) {
                readCall(s, depth);
            } else if (s != null && s.kind == S_ROUTINE && s.routine == routine) {
                emit(VARIABLE, 0, routine.resultSlot, words.place);
                Item result = new Item(routine.result, REFERENCE, words.place);
                words.next();
                readAssignment(result, depth);
            } else {
                fail(UNKNOWN);
            }
        }

        private void readAssignment(Item x, int depth) {
            if (x.form != REFERENCE) {
                fail(MISFIT);
            }
            need(W_BECOMES);
            if (x.isProtected) {
                fail(GUARDED);
            }
            int place = words.place;
            words.next();
            Item v = readSum0(depth);
            load(v);
            if (!fits(x.type, v)) {
                fail(MISFIT);
            }
            if (x.type.kind == T_STRING) {
                asText(v);
                emit(STORE_TEXT, x.type.id, place);
            } else if (!x.type.isScalar()) {
                emit(COPY, x.type.id, place);
            } else if (x.tag != null) {
                emit(STORE_TAG, x.tag.number, place);
            } else {
                emit(STORE, x.type.id, place);
            }
        }

        /** Whether a variable or value param of this type may be given what was read. */
        private boolean fits(Type t, Item v) {
            if (t.isOrdinal()) {
                return v.type.isOrdinal() && v.type.host == t.host;
            }
            switch (t.kind) {
                case T_SET: return isSetOf(v.type, t.hostOfMembers());
                case T_STRING: return isTextual(v.type);
                case T_POINTER: return v.type == t || v.type == program.nil;
                case T_ARRAY:
                case T_RECORD: return v.form == REFERENCE && v.type == t && !t.hangs;
                case T_GIVEN:
                case T_SCHEMA: return v.form == REFERENCE && v.type.schema == t.schema;
                default: return false;
            }
        }

        private boolean isSetOf(Type t, Type host) {
            return t.kind == T_SET && (t == program.emptySet || host == null || t.hostOfMembers() == host);
        }

        private boolean isTextual(Type t) {
            return t.kind == T_STRING || isOf(t, program.character);
        }

        private static boolean isOf(Type t, Type host) {
            return t.isOrdinal() && t.host == host;
        }

        private void readCondition(int depth) {
            Item x = readSum0(depth);
            load(x);
            if (!isOf(x.type, program.bool)) {
                fail(MISFIT);
            }
        }

        private int readUnless(int depth, int word) {
            words.next();
            readCondition(depth);
            expect(word);
            emit(UNLESS, 0);
            return code.size() - 1;
        }

        private void readIf(int depth) {
            int otherwise = readUnless(depth, W_THEN);
            readStatement(deeper(depth));
            if (words.kind == W_ELSE) {
                words.next();
                emit(JUMP, 0);
                int behind = code.size() - 1;
                jumpHere(otherwise);
                readStatement(deeper(depth));
                jumpHere(behind);
            } else {
                jumpHere(otherwise);
            }
        }

        private void readWhile(int depth, int place) {
            int again = code.size();
            int behind = readUnless(depth, W_DO);
            emit(STEP, place);
            readStatement(deeper(depth));
            emit(JUMP, again);
            jumpHere(behind);
        }

        private void readRepeat(int depth, int place) {
            int again = code.size();
            emit(STEP, place);
            words.next();
            readStatements(depth);
            expect(W_UNTIL);
            readCondition(depth);
            emit(UNLESS, again);
        }

        private void readFor(int depth, int place) {
            words.next();
            need(W_NAME);
            Symbol s = meaning();
            if (s == null || s.kind != S_VARIABLE || s.mode != OWN || s.level != level || !s.type.isOrdinal()) {
                fail(UNKNOWN);
                return;
            }
            words.next();
            expect(W_BECOMES);
            readEnd(s, depth);
            int down = words.kind == W_DOWNTO ? 1 : 0;
            if (down == 0) {
                need(W_TO);
            }
            words.next();
            readEnd(s, depth);
            expect(W_DO);
            emit(FOR_FIRST, s.slot, down, place);
            emit(0);
            int behind = code.size() - 1;
            int again = code.size();
            emit(STEP, place);
            readStatement(deeper(depth));
            emit(FOR_NEXT, s.slot, down, place);
            emit(again);
            jumpHere(behind);
        }

        private void readEnd(Symbol s, int depth) {
            Item x = readSum0(depth);
            load(x);
            if (!isOf(x.type, s.type.host)) {
                fail(MISFIT);
            }
        }

        private void readCase(int depth, int place) {
            words.next();
            Item x = readSum0(depth);
            load(x);
            if (!x.type.isOrdinal()) {
                fail(MISFIT);
            }
            expect(W_OF);
            int mark = ranges.size();
            int ends = 0;
            for (int i = 0; i < MANY; i++) {
                ends = readChoice(x.type.host, mark, depth, ends);
                if (words.kind != W_SEMICOLON) {
                    break;
                }
                words.next();
                if (words.kind == W_OTHERWISE || words.kind == W_FINISH) {
                    break;
                }
            }
            ranges.cut(mark);
            if (words.kind == W_OTHERWISE) {
                emit(DROP);
                words.next();
                readStatements(depth);
            } else {
                emit(NO_CASE, place);
            }
            expect(W_FINISH);
            jumpHere(ends);
        }

        private int readChoice(Type host, int mark, int depth, int ends) {
            int picks = 0;
            for (int i = 0; i < MANY; i++) {
                readRange(ranges, mark, host, false, depth);
                ranges.add(0);
                emit(PICK, ranges.get(ranges.size() - 3), ranges.get(ranges.size() - 2), picks);
                picks = code.size() - 1;
                if (words.kind != W_COMMA) {
                    break;
                }
                words.next();
            }
            expect(W_COLON);
            emit(JUMP, 0);
            int past = code.size() - 1;
            jumpHere(picks);
            readStatement(deeper(depth));
            emit(JUMP, ends);
            int end = code.size() - 1;
            jumpHere(past);
            return end;
        }

        private void readWith(int depth) {
            int mark = withs.size();
            int before = withFields;
            int at = depth;
            for (int i = 0; i < MANY; i++) {
                words.next();
                at = deeper(at);
                Item x = readOnlyVariable(at);
                Type record = x.type.body();
                if (x.form != REFERENCE || record.kind != T_RECORD) {
                    fail(MISFIT);
                }
                withFields += record.names == null ? 0 : record.names.size();
                if (withFields > MOST_FIELDS) {
                    fail(TOO_MUCH);
                }
                x.number = routine.rows();
                routine.withs++;
                emit(BIND, x.number);
                withs.add(x);
                if (words.kind != W_COMMA) {
                    break;
                }
            }
            expect(W_DO);
            readStatement(deeper(at));
            for (int i = withs.size() - 1; i >= mark && i < withs.size(); i--) {
                withs.remove(i);
            }
            withFields = before;
        }

        /** A variable where by grammar nothing else may stand. */
        private Item readOnlyVariable(int depth) {
            need(W_NAME);
            Symbol s = meaning();
            if (!isVariable(s)) {
                fail(UNKNOWN);
            }
            return readVariable(s, depth);
        }

        // ---- calls

        /** A call of a routine; its name stands here. */
        private void readCall(Symbol s, int depth) {
            Routine r = s.routine;
            int place = words.place;
            words.next();
            if (r.params > 0) {
                if (words.kind != W_OPEN) {
                    fail(MISCOUNTED);
                }
                int inside = deeper(depth);
                for (int i = 0; i < r.params && i < r.variables.size(); i++) {
                    words.next();
                    readParam(r.variables.get(i), inside);
                    checkMore(i < r.params - 1);
                }
                words.next();
            }
            emit(CALL, r.number, level - r.level, place);
        }

        private void readParam(Symbol param, int depth) {
            Item x = readSum0(depth);
            Type t = param.type;
            if (param.mode == BY_VALUE) {
                load(x);
                if (!fits(t, x)) {
                    fail(MISFIT);
                }
                if (t.kind == T_STRING) {
                    asText(x);
                }
                return;
            }
            if (x.form != REFERENCE || (t.schema == null ? x.type != t : x.type.schema != t.schema)) {
                fail(MISFIT);
            }
            if (param.mode == BY_VAR) {
                checkFree(x);
            }
        }

        private void checkFree(Item x) {
            if (x.isProtected || x.tag != null) {
                fail(GUARDED);
            }
        }

        private void readKnownProcedure(int known, int depth) {
            int place = words.place;
            words.next();
            if (known == N_HALT) {
                emit(HALT);
                return;
            }
            if (known == N_WRITELN && words.kind != W_OPEN) {
                emit(WRITE_LINE);
                return;
            }
            if (words.kind != W_OPEN) {
                fail(MISCOUNTED);
            }
            int inside = deeper(depth);
            words.next();
            if (known == N_NEW || known == N_DISPOSE) {
                readPointed(known, inside, place);
            } else {
                for (int i = 0; i < MANY; i++) {
                    if (known == N_READ) {
                        readToRead(inside, place);
                    } else {
                        readToWrite(inside);
                    }
                    if (words.kind != W_COMMA) {
                        break;
                    }
                    words.next();
                }
            }
            expect(W_CLOSE);
            if (known == N_WRITELN) {
                emit(WRITE_LINE);
            }
        }

        private void readToRead(int depth, int place) {
            Item x = readOnlyVariable(depth);
            if (x.form != REFERENCE || !isOf(x.type, program.integer)) {
                fail(MISFIT);
            }
            checkFree(x);
            emit(READ, x.type.id, place);
        }

        private void readToWrite(int depth) {
            Item x = readSum0(depth);
            load(x);
            if (x.type.kind == T_STRING) {
                emit(WRITE_TEXT);
            } else if (x.type.isOrdinal()) {
                emit(WRITE, x.type.host.kind);
            } else {
                fail(MISFIT);
            }
        }

        /** The params of new and dispose. */
        private void readPointed(int known, int depth, int place) {
            Item x = readOnlyVariable(depth);
            if (x.form != REFERENCE || x.type.kind != T_POINTER) {
                fail(MISFIT);
            }
            if (known == N_DISPOSE) {
                checkMore(false);
                emit(DISPOSE, x.type.id, place);
                return;
            }
            checkFree(x);
            Type t = x.type.of;
            int n = t != null && t.kind == T_SCHEMA ? program.discriminantsOf(t) : 0;
            checkMore(n > 0);
            for (int i = 0; i < n; i++) {
                words.next();
                Item v = readSum0(depth);
                load(v);
                if (!isOf(v.type, t.names.get(i).type.host)) {
                    fail(MISFIT);
                }
                checkMore(i < n - 1);
            }
            emit(NEW, x.type.id, place);
        }

        // ---- sums

        /** Leaves the number or text of a variable; arrays and records stay variables. */
        private void load(Item x) {
            if (x.form == REFERENCE && x.type.isScalar()) {
                emit(LOAD, x.type.id, x.place);
                x.form = VALUE;
            } else if (x.form == REFERENCE && x.type.kind == T_STRING) {
                emit(LOAD_TEXT, x.type.id, x.place);
                x.form = VALUE;
            }
        }

        /** A char that stands for a string becomes one. */
        private void asText(Item x) {
            if (x.type.isOrdinal()) {
                emit(TO_TEXT, x.place);
                x.type = program.text;
            }
        }

        /** The same for a left side, as what the right one is was read too late; no jump leads into a sum. */
        private void asTextBefore(Item x, int rightSide) {
            if (x.type.isOrdinal()) {
                code.insert(rightSide, TO_TEXT, x.place);
                x.type = program.text;
            }
        }

        private static boolean isRelation(int word) {
            return word >= W_EQUAL && word <= W_GREATER || word >= W_UNEQUAL && word <= W_AT_LEAST || word == W_IN;
        }

        private static boolean isAdding(int word) {
            return word == W_PLUS || word == W_MINUS || word == W_OR;
        }

        private static boolean isTiming(int word) {
            return word == W_TIMES || word == W_DIV || word == W_MOD || word == W_AND;
        }

        private Item readSum0(int depth) {
            Item left = readSum(depth);
            if (!isRelation(words.kind)) {
                return left;
            }
            load(left);
            int relation = words.kind;
            int place = words.place;
            int rightSide = code.size();
            words.next();
            Item right = readSum(depth);
            load(right);
            if (relation != W_IN && right.type.kind == T_STRING && isTextual(left.type)) {
                asTextBefore(left, rightSide);
            }
            return related(left, relation, place, right);
        }

        private Item readSum(int depth) {
            int sign = words.kind;
            if (sign == W_PLUS || sign == W_MINUS) {
                words.next();
            }
            Item sum = readFactor(depth);
            int adding = 0;
            int addingPlace = 0;
            int rightSide = 0;
            Item whole = sum;
            for (int i = 0; i < MANY; i++) {
                for (int j = 0; j < MANY && isTiming(words.kind); j++) {
                    load(sum);
                    int timing = words.kind;
                    int place = words.place;
                    words.next();
                    sum = joined(sum, timing, place, readFactor(depth), 0);
                }
                if (adding != 0) {
                    sum = joined(whole, adding, addingPlace, sum, rightSide);
                } else if (sign == W_PLUS || sign == W_MINUS) {
                    signed(sum, sign);
                }
                if (!isAdding(words.kind)) {
                    return sum;
                }
                whole = sum;
                adding = words.kind;
                addingPlace = words.place;
                load(whole);
                rightSide = code.size();
                words.next();
                sum = readFactor(depth);
            }
            return sum;
        }

        private void signed(Item x, int sign) {
            load(x);
            if (!isOf(x.type, program.integer)) {
                words.note(MISFIT);
            }
            x.type = program.integer;
            if (sign == W_MINUS) {
                emit(NEGATE);
            }
        }

        /** What two factors or terms come to; the word behind the second one stands here, its code begins at rightSide. */
        private Item joined(Item left, int sign, int place, Item right, int rightSide) {
            load(right);
            Type t = null;
            int op = 0;
            if (isOf(left.type, program.integer) && isOf(right.type, program.integer)) {
                op = ofIntegers(sign);
                t = program.integer;
            } else if (isOf(left.type, program.bool) && isOf(right.type, program.bool)) {
                op = sign == W_AND ? AND : sign == W_OR ? OR : 0;
                t = program.bool;
            } else if (left.type.kind == T_SET && isSetOf(right.type, left.type.hostOfMembers())) {
                op = sign == W_PLUS ? ALL_OF : sign == W_MINUS ? LESS_OF : sign == W_TIMES ? COMMON_OF : 0;
                t = left.type == program.emptySet ? right.type : left.type;
            } else if (sign == W_PLUS && isTextual(left.type) && isTextual(right.type)) {
                asTextBefore(left, rightSide);
                asText(right);
                op = CONCAT;
                t = program.text;
            }
            if (op == 0) {
                return misfit(left, right, place);
            }
            emit(op, place);
            return result(left, right, t, place, op < ALL_OF && op >= ADD);
        }

        /** Sides that do not fit: read on, as a sum that ends with them may have a step that cannot be. */
        private Item misfit(Item left, Item right, int place) {
            words.note(MISFIT);
            emit(EQUAL, place);
            return result(left, right, program.bool, place, true);
        }

        private static int ofIntegers(int sign) {
            switch (sign) {
                case W_PLUS: return ADD;
                case W_MINUS: return SUBTRACT;
                case W_TIMES: return MULTIPLY;
                case W_DIV: return DIVIDE;
                case W_MOD: return MODULO;
                default: return 0;
            }
        }

        private Item result(Item left, Item right, Type t, int place, boolean mayBeKnown) {
            Item x = new Item(t, VALUE, place);
            x.isKnown = mayBeKnown && left.isKnown && right.isKnown;
            x.hangs = left.hangs || right.hangs;
            return x;
        }

        private Item related(Item left, int relation, int place, Item right) {
            Type a = left.type;
            Type b = right.type;
            int op = 0;
            boolean mayBeKnown = false;
            if (relation == W_IN) {
                op = a.isOrdinal() && isSetOf(b, a.host) ? IN : 0;
            } else if (a.isOrdinal() && b.isOrdinal()) {
                op = a.host == b.host ? ofOrdinals(relation) : 0;
                mayBeKnown = true;
            } else if (isTextual(a) && isTextual(b)) {
                asText(right);
                emit(COMPARE_TEXT, ofOrdinals(relation));
                return result(left, right, program.bool, place, false);
            } else if (a.kind == T_SET && isSetOf(b, a.hostOfMembers())) {
                op = relation == W_AT_MOST ? PART_OF : relation == W_AT_LEAST ? WHOLE_OF : ofEqual(relation);
            } else if (isPointing(a) && isPointing(b) && (a == b || a == program.nil || b == program.nil)) {
                op = ofEqual(relation);
            }
            if (op == 0) {
                return misfit(left, right, place);
            }
            emit(op, place);
            return result(left, right, program.bool, place, mayBeKnown);
        }

        private boolean isPointing(Type t) {
            return t.kind == T_POINTER || t == program.nil;
        }

        private static int ofEqual(int relation) {
            return relation == W_EQUAL ? EQUAL : relation == W_UNEQUAL ? UNEQUAL : 0;
        }

        private static int ofOrdinals(int relation) {
            switch (relation) {
                case W_LESS: return LESS;
                case W_GREATER: return GREATER;
                case W_AT_MOST: return AT_MOST;
                case W_AT_LEAST: return AT_LEAST;
                default: return ofEqual(relation);
            }
        }

        private Item readFactor(int depth) {
            int place = words.place;
            switch (words.kind) {
                case W_NUMBER: return readLiteral(CONST, program.integer);
                case W_TEXT: return words.textLength == 1 ? readLiteral(CONST, program.character) : readText();
                case W_NIL: return readNil();
                case W_NOT: return readNot(depth);
                case W_OPEN: return readBrackets(depth);
                case W_OPEN_SQUARE: return readMembers(depth);
                case W_NAME: return readNamedFactor(depth, place);
                default:
                    fail(MISPLACED);
                    return new Item(program.none, VALUE, place);
            }
        }

        /** The number that stands here. */
        private Item readLiteral(int op, Type t) {
            Item x = new Item(t, VALUE, words.place);
            emit(op, words.number);
            x.isKnown = true;
            words.next();
            return x;
        }

        private Item readText() {
            Item x = new Item(program.text, VALUE, words.place);
            emit(TEXT, words.textAt, words.textLength, words.place);
            x.isText = true;
            x.number = words.textAt;
            x.textLength = words.textLength;
            words.next();
            return x;
        }

        private Item readNil() {
            Item x = new Item(program.nil, VALUE, words.place);
            emit(CONST, 0);
            words.next();
            return x;
        }

        private Item readNot(int depth) {
            int inside = deeper(depth);
            words.next();
            Item x = readFactor(inside);
            load(x);
            if (!isOf(x.type, program.bool)) {
                words.note(MISFIT);
            }
            x.type = program.bool;
            emit(NOT);
            return x;
        }

        private Item readBrackets(int depth) {
            int inside = deeper(depth);
            words.next();
            Item x = readRule(R_SUM0, inside);
            load(x);
            x.isText = false; // a text in brackets is not alone, so it is no constant
            if (x.form == REFERENCE) {
                x.form = SEALED;
            }
            expect(W_CLOSE);
            return x;
        }

        private Item readMembers(int depth) {
            Item x = new Item(program.emptySet, VALUE, words.place);
            int inside = deeper(depth);
            emit(CONST, 0);
            words.next();
            for (int i = 0; i < MANY && (i > 0 || words.kind != W_CLOSE_SQUARE); i++) {
                int place = words.place;
                readMember(x, inside);
                if (words.kind == W_DOTS) {
                    words.next();
                    readMember(x, inside);
                    emit(MEMBERS, place);
                } else {
                    emit(MEMBER, place);
                }
                if (words.kind != W_COMMA) {
                    break;
                }
                words.next();
            }
            expect(W_CLOSE_SQUARE);
            return x;
        }

        private void readMember(Item set, int depth) {
            Item x = readSum0(depth);
            load(x);
            if (!x.type.isOrdinal() || !isSetOf(set.type, x.type.host)) {
                fail(MISFIT);
            }
            if (set.type == program.emptySet) {
                Type t = new Type(T_SET, 0);
                t.host = program.none;
                t.of = x.type.host;
                set.type = t;
            }
        }

        private Item readNamedFactor(int depth, int place) {
            Symbol s = meaning();
            if (s == null) {
                fail(UNKNOWN);
                return new Item(program.none, VALUE, place);
            }
            if (isVariable(s)) {
                return readVariable(s, depth);
            }
            switch (s.kind) {
                case S_CONSTANT: return readNamedConstant(s);
                case S_DISCRIMINANT:
                    words.number = s.number;
                    Item d = readLiteral(DISCRIMINANT, s.type);
                    d.hangs = true;
                    return d;
                case S_KNOWN_FUNCTION: return readKnownFunction(s.number, depth, place);
                case S_ROUTINE:
                    if (s.routine.isFunction) {
                        readCall(s, depth);
                        return new Item(s.routine.result, VALUE, place);
                    }
                    break;
                default:
                    break;
            }
            fail(UNKNOWN);
            return new Item(program.none, VALUE, place);
        }

        private Item readNamedConstant(Symbol s) {
            if (s.type == program.text) {
                words.textAt = s.number;
                words.textLength = s.textLength;
                return readText();
            }
            words.number = s.number;
            return readLiteral(CONST, s.type);
        }

        // ---- variables

        private Item readVariable(Symbol s, int depth) {
            int place = words.place;
            Item x = new Item(s.type, REFERENCE, place);
            if (s.kind == S_FIELD && foundWith != null) {
                emit(WITHIN, foundWith.number);
                emit(FIELD, s.number, place);
                x.isProtected = foundWith.isProtected;
                x.tag = s.isTag ? s : null;
            } else {
                emit(VARIABLE, level - s.level, s.slot, place);
                x.isProtected = s.mode == BY_PROTECTED;
            }
            words.next();
            for (int i = 0; i < MANY && x.form == REFERENCE; i++) {
                if (words.kind == W_DOT) {
                    readPart(x);
                } else if (words.kind == W_OPEN_SQUARE) {
                    readIndices(x, depth);
                } else if (words.kind == W_CARET) {
                    readFollow(x);
                } else {
                    break;
                }
            }
            return x;
        }

        private void readPart(Item x) {
            Type record = x.type.body();
            boolean isSchema = x.type.schema != null;
            if (!isSchema && record.kind != T_RECORD) {
                fail(MISFIT);
            }
            x.place = words.place;
            words.next();
            need(W_NAME);
            Symbol d = isSchema ? named(x.type.schema.names, words.number) : null;
            Symbol f = record.kind == T_RECORD ? named(record.names, words.number) : null;
            if (d != null) {
                emit(OF_SCHEMA, d.number);
                x.form = VALUE;
                x.type = d.type;
                x.tag = null;
            } else if (f != null) {
                emit(FIELD, f.number, x.place);
                x.type = f.type;
                x.tag = f.isTag ? f : null;
            } else {
                fail(UNKNOWN);
            }
            words.next();
        }

        private void readIndices(Item x, int depth) {
            int inside = deeper(depth);
            for (int i = 0; i < MANY; i++) {
                Type array = x.type.body();
                if (array.kind != T_ARRAY || array.index == null || array.of == null) {
                    fail(MISFIT);
                    return;
                }
                x.place = words.place;
                words.next();
                Item index = readSum0(inside);
                load(index);
                if (!isOf(index.type, array.index.host)) {
                    fail(MISFIT);
                }
                emit(INDEX, array.id, x.place);
                x.type = array.of;
                x.tag = null;
                if (words.kind != W_COMMA) {
                    break;
                }
            }
            expect(W_CLOSE_SQUARE);
        }

        private void readFollow(Item x) {
            Type pointer = x.type;
            if (pointer.kind != T_POINTER || pointer.of == null) {
                fail(MISFIT);
                return;
            }
            x.place = words.place;
            emit(FOLLOW, pointer.id, x.place);
            x.type = pointer.of;
            x.tag = null;
            x.isProtected = false;
            words.next();
        }

        // ---- known functions

        /** What the params of a known function are: an integer, any ordinal, a text, a set. */
        private static String paramsOf(int known) {
            switch (known) {
                case N_ORD:
                case N_SUCC:
                case N_PRED: return "o";
                case N_LENGTH: return "t";
                case N_CARD: return "s";
                case N_INDEX: return "tt";
                case N_SUBSTR: return "tii";
                case N_EOF: return "";
                default: return "i";
            }
        }

        private Item readKnownFunction(int known, int depth, int place) {
            String params = paramsOf(known);
            Item x = new Item(program.integer, VALUE, place);
            words.next();
            if (params.length() > 0) {
                if (words.kind != W_OPEN) {
                    fail(MISCOUNTED);
                }
                int inside = deeper(depth);
                for (int i = 0; i < params.length(); i++) {
                    words.next();
                    x = readKnownParam(params.charAt(i), inside);
                    checkMore(i < params.length() - 1);
                }
                words.next();
            }
            return ofKnown(known, x, place);
        }

        private Item readKnownParam(char wanted, int depth) {
            Item x = readSum0(depth);
            load(x);
            boolean fits = wanted == 'i' ? isOf(x.type, program.integer)
                    : wanted == 'o' ? x.type.isOrdinal()
                    : wanted == 't' ? isTextual(x.type) : x.type.kind == T_SET;
            if (!fits) {
                fail(MISFIT);
            }
            if (wanted == 't') {
                asText(x);
            }
            return x;
        }

        private Item ofKnown(int known, Item last, int place) {
            Item x = new Item(program.integer, VALUE, place);
            switch (known) {
                case N_ABS: emit(ABS); break;
                case N_SQR: emit(SQR, place); break;
                case N_LENGTH: emit(LENGTH); break;
                case N_CARD: emit(CARD); break;
                case N_INDEX: emit(FIND); break;
                case N_ODD:
                    emit(ODD);
                    x.type = program.bool;
                    break;
                case N_EOF:
                    emit(EOF);
                    x.type = program.bool;
                    break;
                case N_SUBSTR:
                    emit(SUBSTR, place);
                    x.type = program.text;
                    break;
                case N_CHR:
                    emit(CHR, place);
                    x.type = program.character;
                    x.isKnown = last.isKnown;
                    break;
                case N_SUCC:
                    emit(SUCC, last.type.host.high, place);
                    x.type = last.type.host;
                    x.isKnown = last.isKnown;
                    break;
                case N_PRED:
                    emit(PRED, last.type.host.low, place);
                    x.type = last.type.host;
                    x.isKnown = last.isKnown;
                    break;
                default: // ord: the number is there already
                    x.isKnown = last.isKnown;
                    break;
            }
            x.hangs = x.isKnown && last.hangs;
            return x;
        }
    }

    /** The cells of activations and things, and what is kept of these. */
    private static final class Store {
        private final long[] numbers = new long[2 * MOST_TAKEN];
        private final int[] sorts = new int[2 * MOST_TAKEN];
        private final long[] rows = new long[2 * MOST_TAKEN * ROW];
        private final int[] ofCalls = new int[MOST_CALLS * CALL_WORDS];
        private final int[] ofThings = new int[MOST_TAKEN];
        private int calls;
        private int taken;
        private int cellTop;
        private int rowTop;
        private int things;
        private int thingsTaken;
        private int thingsThere;
        private int thingTop;

        void clear() {
            calls = 0;
            taken = 0;
            cellTop = 0;
            rowTop = 0;
            things = 0;
            thingsTaken = 0;
            thingsThere = 0;
            thingTop = 0;
        }

        long numberAt(int cell) {
            return cell >= 0 && cell < numbers.length ? numbers[cell] : 0;
        }

        int sortAt(int cell) {
            return cell >= 0 && cell < sorts.length ? sorts[cell] : 0;
        }

        void put(int cell, long number, int sort) {
            if (cell >= 0 && cell < numbers.length) {
                numbers[cell] = number;
                sorts[cell] = sort;
            }
        }

        void forget(int from, int cells) {
            for (int i = from; i < from + cells; i++) {
                put(i, 0, 0);
            }
        }

        /** Cell by cell from the first on, as both may lie on one another. */
        void copy(int from, int to, int cells) {
            for (int i = 0; i < cells; i++) {
                put(to + i, numberAt(from + i), sortAt(from + i));
            }
        }

        int defined(int from, int cells) {
            int n = 0;
            for (int i = from; i < from + cells; i++) {
                n += sortAt(i) != 0 ? 1 : 0;
            }
            return n;
        }

        long inRow(int row, int i) {
            int at = row * ROW + i;
            return at >= 0 && at < rows.length ? rows[at] : 0;
        }

        void setRow(int row, int i, long number) {
            int at = row * ROW + i;
            if (at >= 0 && at < rows.length) {
                rows[at] = number;
            }
        }

        int ofCall(int call, int what) {
            int at = call * CALL_WORDS + what;
            return at >= 0 && at < ofCalls.length ? ofCalls[at] : NONE;
        }

        void setCall(int call, int what, int number) {
            int at = call * CALL_WORDS + what;
            if (at >= 0 && at < ofCalls.length) {
                ofCalls[at] = number;
            }
        }

        /** An activation that has taken nothing yet. */
        void open(int routine, int place, int outer, int back) {
            calls++;
            int call = calls - 1;
            setCall(call, C_ROUTINE, routine);
            setCall(call, C_PLACE, place);
            setCall(call, C_OUTER, outer);
            setCall(call, C_RETURN, back);
            setCall(call, C_LATEST, NONE);
            setCall(call, C_ROW, rowTop);
            setCall(call, C_ROWS, 0);
            setCall(call, C_CELL, cellTop);
            setCall(call, C_TAKEN, taken);
        }

        void close() {
            int call = calls - 1;
            rowTop = ofCall(call, C_ROW);
            cellTop = ofCall(call, C_CELL);
            taken = ofCall(call, C_TAKEN);
            calls = call;
        }

        boolean take(int n) {
            if (n > MOST_TAKEN - taken) {
                return false;
            }
            taken += n;
            return true;
        }

        /** Rows for the variables of the innermost activation, none of which is made. */
        void addRows(int n) {
            setCall(calls - 1, C_ROWS, n);
            for (int i = 0; i < n; i++) {
                setRow(rowTop, 0, NONE);
                rowTop++;
            }
        }

        int addCells(int n) {
            int first = cellTop;
            cellTop += n;
            forget(first, n);
            return first;
        }

        int rowOf(int call, int slot) {
            return slot >= 0 && slot < ofCall(call, C_ROWS) ? ofCall(call, C_ROW) + slot : NONE;
        }

        /** A new thing, or false where it would be too much. */
        boolean addThing(int type, int discriminants, int cells) {
            int n = 1 + discriminants + cells;
            if (n > MOST_TAKEN - thingsTaken || things >= ofThings.length) {
                return false;
            }
            thingsTaken += n;
            ofThings[things] = type;
            things++;
            thingsThere++;
            setRow(rowOfThing(things), 0, MOST_TAKEN + thingTop);
            forget(MOST_TAKEN + thingTop, cells);
            thingTop += cells;
            return true;
        }

        int rowOfThing(int n) {
            return MOST_TAKEN + n - 1;
        }

        /** The type is kept with its sign turned when the thing is no more. */
        boolean isThere(int n) {
            return n >= 1 && n <= things && n <= ofThings.length && ofThings[n - 1] > 0;
        }

        int typeOfThing(int n) {
            return n >= 1 && n <= things && n <= ofThings.length ? Math.abs(ofThings[n - 1]) : 0;
        }

        void dropThing(int n, int cells) {
            if (isThere(n)) {
                ofThings[n - 1] = -ofThings[n - 1];
                thingsThere--;
                forget((int) inRow(rowOfThing(n), 0), cells);
            }
        }
    }

    /** Does the code of a program, step by step. */
    private static final class Machine {
        private final Program program;
        private final Row code;
        private final Store store = new Store();
        private final long[] stack = new long[MOST_OPERANDS];
        private int top;
        private final byte[] texts = new byte[MOST_WAITING_BYTES];
        private int textTop;
        private final Part[] chain = new Part[MOST_DEEP + 8];
        private final long[] given = new long[MOST_DISCRIMINANTS];
        private int at;
        private int state = IDLE;
        private boolean pauses;
        private int budget;
        private int steps;
        private int error;
        private int errorPlace = NONE;
        private final byte[] out = new byte[MOST_KEPT];
        private int written;
        private final int[] numbers = new int[MOST_INPUT];
        private int firstNumber;
        private int unread;

        Machine(Program program) {
            this.program = program;
            this.code = program.code;
        }

        /** What ran before is gone; the numbers that were not read stay. */
        void forget() {
            store.clear();
            top = 0;
            textTop = 0;
            at = 0;
            state = IDLE;
            steps = 0;
            error = 0;
            errorPlace = NONE;
            written = 0;
        }

        void begin() {
            forget();
            state = GOING;
            Routine r = program.routineAt(0);
            store.open(0, NONE, NONE, 0);
            if (makeRoom(r)) {
                at = r.entry;
            }
        }

        /** Does so many steps more: 0 it goes on, 1 it ended, 2 it ended with an error. */
        int run(int more) {
            budget = more;
            pauses = false;
            for (long i = 0; i < FAR && state == GOING && !pauses; i++) {
                int op = code.get(at);
                switch (op) {
                    case CALL: call(); break;
                    case LEAVE: leave(); break;
                    case MAKE_GIVEN: makeGiven(); break;
                    case FIELD: referToField(); break;
                    case FOLLOW: follow(); break;
                    case NEW: makeThing(); break;
                    case DISPOSE: dispose(); break;
                    default:
                        if (op < VARIABLE) {
                            control(op);
                        } else if (op < STORE) {
                            refer(op);
                        } else if (op < CONST) {
                            change(op);
                        } else if (op < TEXT) {
                            number(op);
                        } else if (op < ADD) {
                            text(op);
                        } else {
                            join(op);
                        }
                        break;
                }
            }
            return state == GOING ? 0 : state == ENDED ? 1 : 2;
        }

        void accept(int number) {
            if (unread < numbers.length) {
                numbers[(firstNumber + unread) % numbers.length] = number;
                unread++;
            }
        }

        private void fail(int number, int place) {
            error = number;
            errorPlace = place;
            state = FAILED;
        }

        private void finish() {
            state = ENDED;
            store.calls = 0;
            store.taken = 0;
        }

        // ---- what is told of variables

        int rowOfVariable(int i, int k) {
            if (i < 0 || i >= store.calls) {
                return NONE;
            }
            int call = store.calls - 1 - i;
            if (k < 0 || k >= program.routineAt(store.ofCall(call, C_ROUTINE)).variables.size()) {
                return NONE;
            }
            int row = store.rowOf(call, k);
            return row >= 0 && store.inRow(row, 0) >= 0 ? row : NONE;
        }

        Type typeOfVariable(int i, int k) {
            if (i < 0 || i >= store.calls) {
                return program.none;
            }
            Routine r = program.routineAt(store.ofCall(store.calls - 1 - i, C_ROUTINE));
            return k >= 0 && k < r.variables.size() ? r.variables.get(k).type : program.none;
        }

        /** What a row stands for has the discriminants of a schema already, so that its body is asked. */
        int cellsOfVariable(int i, int k) {
            return program.cellsOf(typeOfVariable(i, k).body(), store.rows, rowOfVariable(i, k) * ROW + 1, 0);
        }

        int cellsOfThing(int n) {
            return program.cellsOf(program.typeAt(store.typeOfThing(n)).body(), store.rows, store.rowOfThing(n) * ROW + 1, 0);
        }

        // ---- operands

        private void push(long number) {
            if (top < stack.length) {
                stack[top] = number;
                top++;
            }
        }

        private long pop() {
            if (top > 0) {
                top--;
                return stack[top];
            }
            return 0;
        }

        /** Where the reference begins that has so many operands above it. */
        private int reference(int above) {
            int from = top - ROW - above;
            return from < 0 ? 0 : from;
        }

        private void pushRow(int row) {
            for (int i = 0; i < ROW; i++) {
                push(store.inRow(row, i));
            }
        }

        private void pushByte(int b) {
            if (textTop >= 0 && textTop < texts.length) {
                texts[textTop] = (byte) b;
                textTop++;
            }
        }

        private int byteOf(int i) {
            return i >= 0 && i < texts.length ? texts[i] & 255 : 0;
        }

        // ---- what code does

        private int behind(int i) {
            return code.get(at + i);
        }

        private void control(int op) {
            switch (op) {
                case STEP: beginStep(); break;
                case JUMP: at = behind(1); break;
                case UNLESS: at = pop() == 0 ? behind(1) : at + 2; break;
                case PICK: pick(); break;
                case NO_CASE: fail(E_CASE, behind(1)); break;
                case DROP:
                    pop();
                    at++;
                    break;
                case FOR_FIRST: beginFor(); break;
                case FOR_NEXT: goOnFor(); break;
                case MAKE: makeKnown(); break;
                case FIRST_NAME:
                    push(behind(1));
                    at += 2;
                    break;
                case NEXT_NAME: nextName(); break;
                case GIVE: giveNumber(); break;
                case GIVE_TEXT: giveText(); break;
                case BIND: bind(); break;
                default: finish(); break;
            }
        }

        private void beginStep() {
            if (budget <= 0) {
                pauses = true;
                return;
            }
            budget--;
            steps++;
            store.setCall(store.calls - 1, C_LATEST, behind(1));
            at += 2;
        }

        private long peek() {
            return top > 0 ? stack[top - 1] : 0;
        }

        private void pick() {
            if (peek() >= behind(1) && peek() <= behind(2)) {
                pop();
                at = behind(3);
            } else {
                at += 4;
            }
        }

        private int rowHere(int slot) {
            return store.rowOf(store.calls - 1, slot);
        }

        private Routine routineHere() {
            return program.routineAt(store.ofCall(store.calls - 1, C_ROUTINE));
        }

        private Type typeHere(int slot) {
            Routine r = routineHere();
            return slot >= 0 && slot < r.variables.size() ? r.variables.get(slot).type : program.none;
        }

        private void beginFor() {
            long last = pop();
            long first = pop();
            int cell = (int) store.inRow(rowHere(behind(1)), 0);
            if (behind(2) == 0 ? first > last : first < last) {
                store.put(cell, 0, 0);
                at = behind(4);
            } else if (giveFor(cell, first)) {
                push(last);
                at += 5;
            }
        }

        private boolean giveFor(int cell, long n) {
            Type t = typeHere(behind(1));
            if (!program.canHave(t, n, given, 0)) {
                fail(E_OUTSIDE, behind(3));
                return false;
            }
            store.put(cell, n, t.sort());
            return true;
        }

        private void goOnFor() {
            int cell = (int) store.inRow(rowHere(behind(1)), 0);
            boolean down = behind(2) != 0;
            if (!holds(cell, typeHere(behind(1)), given, 0)) {
                fail(E_UNDEFINED, behind(3));
                return;
            }
            long n = store.numberAt(cell);
            if (down ? n <= peek() : n >= peek()) {
                store.put(cell, 0, 0);
                pop();
                at += 5;
            } else if (giveFor(cell, down ? n - 1 : n + 1)) {
                at = behind(4);
            }
        }

        private void nextName() {
            if (top > 0 && peek() < behind(1)) {
                stack[top - 1]++;
                at = behind(2);
            } else {
                pop();
                at += 3;
            }
        }

        // ---- activations and their variables

        private int outward(int levels) {
            int call = store.calls - 1;
            for (int i = 0; i < levels; i++) {
                call = store.ofCall(call, C_OUTER);
            }
            return call;
        }

        private boolean makeRoom(Routine r) {
            if (!store.take(r.rows())) {
                fail(E_ROOM, r.place);
                return false;
            }
            store.addRows(r.rows());
            return true;
        }

        private void call() {
            Routine r = program.routineAt(behind(1));
            int place = behind(3);
            if (store.calls >= MOST_CALLS) {
                fail(E_ROOM, r.place);
                return;
            }
            store.open(r.number, place, outward(behind(2)), at + 4);
            if (!makeRoom(r)) {
                return;
            }
            int firstOperand = top - operandsOfAll(r);
            int firstByte = textTop - bytesOf(r, firstOperand);
            int operand = firstOperand;
            int from = firstByte;
            for (int i = 0; i < r.params && i < r.variables.size(); i++) {
                Symbol p = r.variables.get(i);
                if (!giveParam(p, operand, from, place, r.place)) {
                    return;
                }
                from += isText(p) ? (int) operandAt(operand) : 0;
                operand += operandsOf(p);
            }
            top = firstOperand < 0 ? 0 : firstOperand;
            textTop = firstByte < 0 ? 0 : firstByte;
            if (r.isFunction && !make(rowHere(r.resultSlot), r.result, r.result.cells, given, 0, r.place)) {
                return;
            }
            at = r.entry;
        }

        private long operandAt(int i) {
            return i >= 0 && i < top ? stack[i] : 0;
        }

        private static boolean isText(Symbol param) {
            return param.mode == BY_VALUE && param.type.kind == T_STRING;
        }

        private static int operandsOf(Symbol param) {
            return param.mode == BY_VALUE && (param.type.isScalar() || param.type.kind == T_STRING) ? 1 : ROW;
        }

        private static int operandsOfAll(Routine r) {
            int n = 0;
            for (int i = 0; i < r.params && i < r.variables.size(); i++) {
                n += operandsOf(r.variables.get(i));
            }
            return n;
        }

        private int bytesOf(Routine r, int firstOperand) {
            int bytes = 0;
            int operand = firstOperand;
            for (int i = 0; i < r.params && i < r.variables.size(); i++) {
                Symbol p = r.variables.get(i);
                bytes += isText(p) ? (int) operandAt(operand) : 0;
                operand += operandsOf(p);
            }
            return bytes;
        }

        private boolean giveParam(Symbol p, int operand, int from, int place, int room) {
            Type t = p.type;
            int row = rowHere(p.slot);
            if (p.mode != BY_VALUE) {
                if (t.kind == T_GIVEN && differs(t, operand)) {
                    fail(E_DIFFER, place);
                    return false;
                }
                for (int i = 0; i < ROW; i++) {
                    store.setRow(row, i, operandAt(operand + i));
                }
                return true;
            }
            boolean isSchema = t.kind == T_SCHEMA;
            if (t.kind == T_GIVEN) {
                program.giveValues(t, given, 0, given, 0);
            }
            int cells = isSchema ? program.cellsOf(t.body(), stack, operand + 1, 0) : t.cells;
            if (!make(row, t, cells, isSchema ? stack : given, isSchema ? operand + 1 : 0, room)) {
                return false;
            }
            int cell = (int) store.inRow(row, 0);
            if (t.isScalar()) {
                return giveScalar(t, cell, operandAt(operand), place);
            }
            if (t.kind == T_STRING) {
                return giveString(t, cell, from, (int) operandAt(operand), place);
            }
            if (t.kind == T_GIVEN && differs(t, operand)) {
                fail(E_DIFFER, place);
                return false;
            }
            store.copy((int) operandAt(operand), cell, cells);
            return true;
        }

        private boolean giveScalar(Type t, int cell, long number, int place) {
            if (!program.canHave(t, number, given, 0)) {
                fail(E_OUTSIDE, place);
                return false;
            }
            store.put(cell, number, t.sort());
            return true;
        }

        private boolean giveString(Type t, int cell, int from, int length, int place) {
            if (length > t.high) {
                fail(E_OUTSIDE, place);
                return false;
            }
            putText(cell, t.high, from, length);
            return true;
        }

        /** Whether a reference has other discriminants than a type whose values are KNOWN. */
        private boolean differs(Type t, int operand) {
            for (int i = 0; i < program.discriminantsOf(t) && i < t.given.length; i++) {
                if (operandAt(operand + 1 + i) != t.given[i]) {
                    return true;
                }
            }
            return false;
        }

        /** Takes the discriminants and cells of a variable; these are UNDEFINED. */
        private boolean make(int row, Type t, int cells, long[] from, int fromAt, int room) {
            if (cells < 0 || !store.take(program.discriminantsOf(t) + cells)) {
                fail(E_ROOM, room);
                return false;
            }
            store.setRow(row, 0, store.addCells(cells));
            for (int i = 0; i < MOST_DISCRIMINANTS; i++) {
                store.setRow(row, 1 + i, Program.inRow(from, fromAt + i));
            }
            return true;
        }

        private void makeKnown() {
            Type t = typeHere(behind(1));
            if (t.kind == T_GIVEN) {
                program.giveValues(t, given, 0, given, 0);
            }
            if (make(rowHere(behind(1)), t, t.cells, given, 0, routineHere().place)) {
                at += 2;
            }
        }

        /** Makes the variable whose slot lies below the values of its schema. */
        private void makeGiven() {
            Type t = program.typeAt(behind(1));
            int place = routineHere().place;
            int cells = cellsGiven(t.schema == null ? program.none : t.schema, place);
            if (state != GOING) {
                return;
            }
            top -= program.discriminantsOf(t);
            if (make(rowHere((int) peek()), t, cells, given, 0, place)) {
                at += 2;
            }
        }

        /** Gives the operands to the discriminants of a schema: how many cells it has then. */
        private int cellsGiven(Type schema, int place) {
            int n = program.discriminantsOf(schema);
            for (int i = 0; i < n && i < given.length; i++) {
                given[i] = operandAt(top - n + i);
                if (!program.canHave(schema.names.get(i).type, given[i], given, 0)) {
                    fail(E_OUTSIDE, place);
                }
            }
            int cells = schema.of == null ? -1 : program.cellsOf(schema.of, given, 0, 0);
            if (cells < 0) {
                fail(E_OUTSIDE, place);
            }
            return cells;
        }

        private void giveNumber() {
            store.put((int) store.inRow(rowHere(behind(1)), 0), behind(2), typeHere(behind(1)).sort());
            at += 3;
        }

        private void giveText() {
            int cell = (int) store.inRow(rowHere(behind(1)), 0);
            int length = behind(3);
            store.put(cell, length, LENGTH_SORT);
            for (int i = 0; i < length; i++) {
                store.put(cell + 1 + i, program.texts.get(behind(2) + i), BYTE_SORT);
            }
            at += 4;
        }

        private void bind() {
            int row = rowHere(behind(1));
            int from = reference(0);
            for (int i = 0; i < ROW; i++) {
                store.setRow(row, i, operandAt(from + i));
            }
            top = from;
            at += 2;
        }

        private void leave() {
            int call = store.calls - 1;
            if (call <= 0) {
                finish();
                return;
            }
            Routine r = routineHere();
            if (r.isFunction && !pushResult(r, store.ofCall(call, C_PLACE))) {
                return;
            }
            at = store.ofCall(call, C_RETURN);
            store.close();
        }

        private boolean pushResult(Routine r, int place) {
            int cell = (int) store.inRow(rowHere(r.resultSlot), 0);
            boolean isDefined = r.result.kind == T_STRING ? lengthAt(cell, r.result, given, 0) >= 0
                    : holds(cell, r.result, given, 0);
            if (!isDefined) {
                fail(E_RESULT, place);
                return false;
            }
            if (r.result.kind == T_STRING) {
                return pushText(cell, (int) store.numberAt(cell), place);
            }
            push(store.numberAt(cell));
            return true;
        }

        // ---- references

        private void refer(int op) {
            switch (op) {
                case VARIABLE: referToVariable(); break;
                case WITHIN:
                    pushRow(rowHere(behind(1)));
                    at += 2;
                    break;
                case INDEX: referToElement(); break;
                case OF_SCHEMA:
                    int from = reference(0);
                    long number = operandAt(from + 1 + behind(1));
                    top = from;
                    push(number);
                    at += 2;
                    break;
                case LOAD: load(); break;
                default: loadText(); break;
            }
        }

        private void referToVariable() {
            int row = store.rowOf(outward(behind(1)), behind(2));
            if (row < 0 || store.inRow(row, 0) < 0) {
                fail(E_UNDEFINED, behind(3));
                return;
            }
            pushRow(row);
            at += 4;
        }

        private void referToField() {
            Symbol f = program.fieldAt(behind(1));
            int from = reference(0);
            if (f.part == null) {
                finish();
                return;
            }
            if (f.part.record.hangs) {
                program.cellsOfRecord(f.part.record, stack, from + 1, 0);
            }
            if (stands(f.part, (int) stack[from], from + 1, behind(2))) {
                stack[from] += f.offset;
                program.enter(f.type, stack, from + 1);
                at += 3;
            }
        }

        /** Whether all the variants stand in which this part is, from the outermost on. */
        private boolean stands(Part part, int record, int discriminants, int place) {
            int n = 0;
            for (Part p = part; p != null && p.outer != null && n < chain.length; p = p.outer) {
                chain[n] = p;
                n++;
            }
            for (int i = n - 1; i >= 0; i--) {
                Part outer = chain[i].outer;
                Symbol tag = outer.tag == null ? program.noField : outer.tag;
                int cell = record + tag.offset;
                if (!holds(cell, tag.type, stack, discriminants)) {
                    fail(E_UNDEFINED, place);
                    return false;
                }
                if (outer.variantOf(store.numberAt(cell)) != chain[i].variant) {
                    fail(E_VARIANT, place);
                    return false;
                }
            }
            return true;
        }

        private void referToElement() {
            Type t = program.typeAt(behind(1));
            long index = pop();
            int from = reference(0);
            long low = t.index == null ? 0 : program.workOut(t.index.low, t.index.lowSum, stack, from + 1);
            if (t.index == null || t.of == null || index < low || index > program.workOut(t.index.high, t.index.highSum, stack, from + 1)) {
                fail(E_OUTSIDE, behind(2));
                return;
            }
            stack[from] += (index - low) * program.cellsOf(t.of, stack, from + 1, 0);
            program.enter(t.of, stack, from + 1);
            at += 3;
        }

        private void follow() {
            int from = reference(0);
            int n = pointed(from, program.typeAt(behind(1)), behind(2));
            if (n > 0) {
                top = from;
                pushRow(store.rowOfThing(n));
                at += 3;
            }
        }

        /** The thing to which the pointer of a reference points; 0 where there is none, which is an error then. */
        private int pointed(int from, Type t, int place) {
            int cell = (int) stack[from];
            int n = (int) store.numberAt(cell);
            if (!holds(cell, t, stack, from + 1)) {
                fail(E_UNDEFINED, place);
            } else if (n == 0) {
                fail(E_NIL, place);
            } else if (!store.isThere(n)) {
                fail(E_GONE, place);
            } else {
                return n;
            }
            return 0;
        }

        /** Whether the cell has a number of this type's sort that the type can have. */
        private boolean holds(int cell, Type t, long[] row, int rowAt) {
            return store.sortAt(cell) != 0 && store.sortAt(cell) == t.sort() && program.canHave(t, store.numberAt(cell), row, rowAt);
        }

        /** The length of a string, or -1 if it is UNDEFINED. */
        private int lengthAt(int cell, Type t, long[] row, int rowAt) {
            long length = store.numberAt(cell);
            if (store.sortAt(cell) != LENGTH_SORT || length < 0 || length > program.workOut(t.high, t.highSum, row, rowAt)) {
                return -1;
            }
            for (int i = 1; i <= length; i++) {
                if (store.sortAt(cell + i) != BYTE_SORT) {
                    return -1;
                }
            }
            return (int) length;
        }

        private void load() {
            int from = reference(0);
            int cell = (int) stack[from];
            if (!holds(cell, program.typeAt(behind(1)), stack, from + 1)) {
                fail(E_UNDEFINED, behind(2));
                return;
            }
            top = from;
            push(store.numberAt(cell));
            at += 3;
        }

        private void loadText() {
            int from = reference(0);
            int cell = (int) stack[from];
            int length = lengthAt(cell, program.typeAt(behind(1)), stack, from + 1);
            if (length < 0) {
                fail(E_UNDEFINED, behind(2));
                return;
            }
            top = from;
            if (pushText(cell, length, behind(2))) {
                at += 3;
            }
        }

        private boolean hasRoom(int bytes, int place) {
            if (bytes > texts.length - textTop) {
                fail(E_ROOM, place);
                return false;
            }
            return true;
        }

        private boolean pushText(int cell, int length, int place) {
            if (!hasRoom(length, place)) {
                return false;
            }
            for (int i = 1; i <= length; i++) {
                pushByte((int) store.numberAt(cell + i));
            }
            push(length);
            return true;
        }

        // ---- what gives something to variables, or writes

        private void change(int op) {
            switch (op) {
                case STORE: assign(program.typeAt(behind(1))); break;
                case STORE_TEXT: assignText(); break;
                case STORE_TAG: assignTag(); break;
                case COPY: assignCopy(); break;
                case READ: read(); break;
                case WRITE: write((int) pop()); break;
                case WRITE_TEXT:
                    writeText((int) pop());
                    at++;
                    break;
                default:
                    putOut(10);
                    at++;
                    break;
            }
        }

        private void assign(Type t) {
            int from = reference(1);
            if (!program.canHave(t, peek(), stack, from + 1)) {
                fail(E_OUTSIDE, behind(2));
                return;
            }
            store.put((int) stack[from], peek(), t.sort());
            top = from;
            at += 3;
        }

        private void assignText() {
            int from = reference(1);
            int length = (int) peek();
            Type t = program.typeAt(behind(1));
            long capacity = program.workOut(t.high, t.highSum, stack, from + 1);
            if (length > capacity) {
                fail(E_OUTSIDE, behind(2));
                return;
            }
            textTop = textTop >= length ? textTop - length : 0;
            putText((int) stack[from], (int) capacity, textTop, length);
            top = from;
            at += 3;
        }

        private void putText(int cell, int capacity, int from, int length) {
            store.put(cell, length, LENGTH_SORT);
            for (int i = 0; i < length; i++) {
                store.put(cell + 1 + i, byteOf(from + i), BYTE_SORT);
            }
            store.forget(cell + 1 + length, capacity - length);
        }

        private void assignTag() {
            Symbol tag = program.fieldAt(behind(1));
            Part part = tag.part;
            if (part == null) {
                finish();
                return;
            }
            int from = reference(1);
            int cell = (int) stack[from];
            if (program.canHave(tag.type, peek(), stack, from + 1)) {
                if (part.record.hangs) {
                    program.cellsOfRecord(part.record, stack, from + 1, 0);
                }
                boolean stays = holds(cell, tag.type, stack, from + 1)
                        && part.variantOf(store.numberAt(cell)) == part.variantOf(peek());
                if (!stays) {
                    store.forget(cell + 1, part.last - part.behind);
                }
            }
            assign(tag.type);
        }

        private void assignCopy() {
            Type t = program.typeAt(behind(1));
            int to = reference(ROW);
            int from = reference(0);
            for (int i = 0; i < program.discriminantsOf(t); i++) {
                if (operandAt(to + 1 + i) != operandAt(from + 1 + i)) {
                    fail(E_DIFFER, behind(2));
                    return;
                }
            }
            store.copy((int) stack[from], (int) stack[to], program.cellsOf(t.body(), stack, to + 1, 0));
            top = to;
            at += 3;
        }

        private void read() {
            int from = reference(0);
            Type t = program.typeAt(behind(1));
            if (unread <= 0) {
                fail(E_INPUT, behind(2));
                return;
            }
            int n = numbers[firstNumber];
            if (!program.canHave(t, n, stack, from + 1)) {
                fail(E_OUTSIDE, behind(2));
                return;
            }
            firstNumber = (firstNumber + 1) % numbers.length;
            unread--;
            store.put((int) stack[from], n, t.sort());
            top = from;
            at += 3;
        }

        private void makeThing() {
            Type pointer = program.typeAt(behind(1));
            Type t = pointer.of == null ? program.none : pointer.of;
            int n = program.discriminantsOf(t);
            int from = reference(t.kind == T_SCHEMA ? n : 0);
            int cells = t.cells;
            if (t.kind == T_SCHEMA) {
                cells = cellsGiven(t, behind(2));
            } else if (t.kind == T_GIVEN) {
                program.giveValues(t, given, 0, given, 0);
            }
            if (state != GOING) {
                return;
            }
            if (!store.addThing(t.id, n, cells)) {
                fail(E_ROOM, behind(2));
                return;
            }
            for (int i = 0; i < n; i++) {
                store.setRow(store.rowOfThing(store.things), 1 + i, given[i]);
            }
            store.put((int) stack[from], store.things, pointer.sort());
            top = from;
            at += 3;
        }

        private void dispose() {
            int from = reference(0);
            int n = pointed(from, program.typeAt(behind(1)), behind(2));
            if (n > 0) {
                store.dropThing(n, cellsOfThing(n));
                top = from;
                at += 3;
            }
        }

        private void write(int n) {
            int kind = behind(1);
            if (kind == T_CHAR) {
                putOut(n);
            } else if (kind == T_BOOLEAN) {
                writeWord(n == 0 ? "false" : "true");
            } else {
                writeNumber(n);
            }
            at += 2;
        }

        private void writeWord(String word) {
            for (int i = 0; i < word.length(); i++) {
                putOut(word.charAt(i));
            }
        }

        private void writeNumber(int n) {
            int left = n < 0 ? -n : n;
            int unit = 1;
            for (int i = 0; i < 9 && left / unit >= 10; i++) {
                unit *= 10;
            }
            if (n < 0) {
                putOut('-');
            }
            for (int i = 0; i < 10 && unit > 0; i++) {
                putOut('0' + left / unit % 10);
                unit /= 10;
            }
        }

        private void writeText(int length) {
            int from = textTop - length;
            for (int i = 0; i < length; i++) {
                putOut(byteOf(from + i));
            }
            textTop = from < 0 ? 0 : from;
        }

        private void putOut(int b) {
            if (written < out.length) {
                out[written] = (byte) b;
            }
            if (written < MAXINT) {
                written++;
            }
        }

        // ---- numbers and sets

        private void number(int op) {
            switch (op) {
                case CONST:
                    push(behind(1));
                    at += 2;
                    break;
                case CHR:
                    put(Program.ofOne(op, pop(), 0), 1, E_OUTSIDE);
                    break;
                case SUCC:
                case PRED:
                    put(Program.ofOne(op, pop(), behind(1)), 2, E_OUTSIDE);
                    break;
                case ABS:
                    put(Math.abs(pop()), 0, 0);
                    break;
                case ODD:
                    put(pop() & 1, 0, 0);
                    break;
                case SQR:
                    put(Program.ofTwo(MULTIPLY, peek(), pop()), 1, E_BEYOND);
                    break;
                case CARD:
                    put(Long.bitCount(pop()), 0, 0);
                    break;
                case EOF:
                    put(unread <= 0 ? 1 : 0, 0, 0);
                    break;
                case MEMBER:
                    addMembers(peek(), pop());
                    break;
                case MEMBERS:
                    long high = pop();
                    addMembers(pop(), high);
                    break;
                default:
                    put(Program.ofOne(op, pop(), 0), 0, 0);
                    break;
            }
        }

        /** Leaves what an operation came to; what cannot be is an error at its place, the last behind it. */
        private void put(long number, int last, int error) {
            if (number == NO_NUMBER && error != 0) {
                fail(error, behind(last));
                return;
            }
            push(number);
            at += 1 + last;
        }

        private void addMembers(long low, long high) {
            long set = pop();
            if (low <= high && (low < 0 || high > MOST_MEMBER)) {
                fail(E_OUTSIDE, behind(1));
                return;
            }
            for (long i = low; i <= high && i <= MOST_MEMBER; i++) {
                set |= 1L << (int) i;
            }
            push(set);
            at += 2;
        }

        private void join(int op) {
            long right = pop();
            long left = pop();
            if (op > AT_LEAST) {
                push(Program.ofTwoSets(op, left, right));
                at += 2;
            } else {
                put(Program.ofTwo(op, left, right), 1, op == DIVIDE || op == MODULO ? E_DIVISION : E_BEYOND);
            }
        }

        // ---- texts; of each its bytes lie with the texts, its length with the operands

        private void text(int op) {
            switch (op) {
                case TEXT: pushConstant(); break;
                case TO_TEXT: makeText(); break;
                case CONCAT: joinTexts(); break;
                case COMPARE_TEXT: compareTexts(); break;
                case LENGTH:
                    textTop -= Math.min((int) peek(), textTop);
                    at++;
                    break;
                case FIND: find(); break;
                case SUBSTR: cutText(); break;
                default: finish(); break;
            }
        }

        private void pushConstant() {
            int length = behind(2);
            if (hasRoom(length, behind(3))) {
                for (int i = 0; i < length; i++) {
                    pushByte(program.texts.get(behind(1) + i));
                }
                push(length);
                at += 4;
            }
        }

        private void makeText() {
            if (hasRoom(1, behind(1))) {
                pushByte((int) pop());
                push(1);
                at += 2;
            }
        }

        private void joinTexts() {
            long length = pop() + pop();
            if (length > MOST_TEXT) {
                fail(E_OUTSIDE, behind(1));
                return;
            }
            push(length);
            at += 2;
        }

        private void compareTexts() {
            int right = (int) pop();
            int left = (int) pop();
            int rightAt = textTop - right;
            int result = compare(rightAt - left, left, rightAt, right);
            textTop = Math.max(rightAt - left, 0);
            push(Program.ofTwo(behind(1), result, 0));
            at += 2;
        }

        private int compare(int a, int lengthOfA, int b, int lengthOfB) {
            for (int i = 0; i < lengthOfA && i < lengthOfB; i++) {
                if (byteOf(a + i) != byteOf(b + i)) {
                    return byteOf(a + i) < byteOf(b + i) ? -1 : 1;
                }
            }
            return Integer.compare(lengthOfA, lengthOfB);
        }

        /** Where the second text begins in the first one, from 1; 0 if nowhere. */
        private void find() {
            int sought = (int) pop();
            int length = (int) pop();
            int soughtAt = textTop - sought;
            int from = soughtAt - length;
            int found = 0;
            for (int i = 0; i + sought <= length && found == 0; i++) {
                if (compare(from + i, sought, soughtAt, sought) == 0) {
                    found = i + 1;
                }
            }
            textTop = Math.max(from, 0);
            push(found);
            at++;
        }

        private void cutText() {
            long many = pop();
            long first = pop();
            int length = (int) pop();
            if (first < 1 || many < 0 || first - 1 + many > length) {
                fail(E_OUTSIDE, behind(1));
                return;
            }
            int from = textTop - length;
            for (int i = 0; i < many; i++) {
                int to = from + i;
                if (to >= 0 && to < texts.length) {
                    texts[to] = (byte) byteOf(from + (int) first - 1 + i);
                }
            }
            textTop = Math.max(from + (int) many, 0);
            push(many);
            at += 2;
        }
    }
}
