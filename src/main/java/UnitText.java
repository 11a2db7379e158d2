/**
 * Texts of an assembler read into statements, the first fault and its place, and each statement
 * told back as a text. The words in capitals in the comments are those of the document.
 */
public final class UnitText {
    public static final int NONE = -1;
    public static final long NOTHING = 1L << 40;

    private static final int MOST_BYTES = 3000;
    private static final int MOST_WAITING = 20;
    private static final int MOST_NAME_BYTES = 16;
    private static final int MOST_STATEMENTS = 400;
    private static final int MOST_OPERANDS = 800;
    private static final int MOST_ITEMS = 2000;
    private static final int MOST_ITEMS_OF_ONE = 60;
    private static final int MOST_NAMES = 150;
    private static final int DEEPEST = 20;

    private final int[] waiting;
    private final int[] asked;
    private final Reader reader;
    private final Reckoner reckoner;
    private final Teller teller;

    public UnitText() {
        waiting = new int[MOST_WAITING];
        asked = new int[MOST_NAME_BYTES];
        reader = new Reader();
        reckoner = new Reckoner();
        teller = new Teller();
    }

    public void feed(int a, int b, int c, int d, int e) {
        letWait(0, a);
        letWait(4, b);
        letWait(8, c);
        letWait(12, d);
        letWait(16, e);
    }

    private void letWait(int from, int four) {
        for (int i = from; i < from + 4 && i < MOST_WAITING; i++) {
            waiting[i] = four >>> (24 - 8 * (i - from)) & 255;
        }
    }

    public int end(int n) {
        if (n < 0 || n > MOST_WAITING || reader.words.length + n > MOST_BYTES) {
            return NONE;
        }
        for (int i = 0; i < n; i++) {
            reader.words.addByte(waiting[i]);
        }
        for (int i = 0; i < MOST_WAITING; i++) {
            waiting[i] = 0;
        }
        return reader.words.length;
    }

    public int read() throws IllegalArgumentException {
        reader.begin();
        for (int line = 0; line <= MOST_BYTES && reader.hasLine(); line++) {
            reader.readLabels(line);
            reader.readWord(line);
        }
        return reader.finish();
    }

    public int fault(int what) {
        switch (what) {
            case 0:
                return reader.faultNumber;
            case 1:
                return reader.faultPlace;
            default:
                return NONE;
        }
    }

    public int count(int what) {
        switch (what) {
            case 0:
                return reader.done.statements.size;
            case 1:
                return reader.done.operands.size;
            case 2:
                return reader.done.items.size;
            case 3:
                return reader.done.names.size;
            default:
                return NONE;
        }
    }

    public int statement(int k, int what) {
        return reader.done.statements.cell(k, what, NONE);
    }

    public int operand(int j, int what) {
        return what > Book.STRING_BYTES ? NONE : reader.done.operands.cell(j, what, NONE);
    }

    public long constant(int j) {
        return reckoner.workOut(reader.done, j);
    }

    public int item(int t, int what) {
        return reader.done.items.cell(t, what, 0);
    }

    public int name(int k, int i) {
        return reader.done.byteOfName(k, i);
    }

    public int string(int j, int i) {
        return reader.done.byteOfString(j, i);
    }

    public int find(long first, long second) {
        int length = 0;
        for (int i = 0; i < MOST_NAME_BYTES; i++) {
            long eight = i < 8 ? first : second;
            int b = (int) (eight >>> (56 - 8 * (i & 7))) & 255;
            if (b != 0 && length < MOST_NAME_BYTES) {
                asked[length] = b;
                length++;
            }
        }
        return reader.done.findName(asked, 0, length);
    }

    public int tell(int k) {
        return teller.write(reader.done, k);
    }

    public int letter(int i) {
        return teller.byteOfOut(i);
    }

    /** Rows of numbers, all of one width; a cell outside of the rows is neither told nor set. */
    private static final class Table {
        private final int[] cells;
        private final int width;
        private final int most;
        private int size;

        Table(int most, int width) {
            this.most = most;
            this.width = width;
            cells = new int[most * width];
        }

        boolean isFull() {
            return size >= most;
        }

        /** A new row of zeros: its number. */
        int addRow() {
            if (size >= most) {
                return NONE;
            }
            int start = size * width;
            for (int i = start; i >= 0 && i < start + width && i < cells.length; i++) {
                cells[i] = 0;
            }
            size++;
            return size - 1;
        }

        void setCell(int row, int column, int value) {
            int i = row * width + column;
            if (row >= 0 && row < size && column >= 0 && column < width && i >= 0 && i < cells.length) {
                cells[i] = value;
            }
        }

        int cell(int row, int column, int otherwise) {
            int i = row * width + column;
            if (row < 0 || row >= size || column < 0 || column >= width || i < 0 || i >= cells.length) {
                return otherwise;
            }
            return cells[i];
        }
    }

    /** What one text was read into. */
    private static final class Book {
        // The columns up to 5 of a statement and up to 6 of an operand are the face's numbers 'what'.
        static final int SORT = 0;
        static final int VALUE = 1;
        static final int FIRST_OPERAND = 2;
        static final int OPERANDS = 3;
        static final int STATEMENT_PLACE = 4;
        static final int LINE = 5;

        static final int REGISTER = 1;
        static final int MARK = 2;
        static final int FIRST_ITEM = 3;
        static final int ITEMS = 4;
        static final int OPERAND_PLACE = 5;
        static final int STRING_BYTES = 6;
        static final int STRING_START = 7;

        static final int NAME_START = 0;
        static final int NAME_BYTES = 1;

        static final int NAME_LABEL = 0;
        static final int DIGIT_LABEL = 1;
        static final int WORD = 2;

        static final int EXPRESSION_OPERAND = 0;
        static final int REGISTER_OPERAND = 1;
        static final int MEMORY_OPERAND = 2;
        static final int STRING_OPERAND = 3;

        private final Table statements;
        private final Table operands;
        private final Table items;
        private final Table names;
        // Of names and strings; each comes from other bytes of the text, so all find room.
        private final int[] bytes;
        private int byteCount;

        Book() {
            statements = new Table(MOST_STATEMENTS, 6);
            operands = new Table(MOST_OPERANDS, 8);
            items = new Table(MOST_ITEMS, 2);
            names = new Table(MOST_NAMES, 2);
            bytes = new int[MOST_BYTES];
        }

        void clear() {
            statements.size = 0;
            operands.size = 0;
            items.size = 0;
            names.size = 0;
            byteCount = 0;
        }

        void addItem(int sort, int value) {
            int t = items.addRow();
            items.setCell(t, SORT, sort);
            items.setCell(t, VALUE, value);
        }

        void addByte(int b) {
            if (byteCount < bytes.length) {
                bytes[byteCount] = b;
                byteCount++;
            }
        }

        int addName(int[] source, int from, int length) {
            int k = names.addRow();
            names.setCell(k, NAME_START, byteCount);
            names.setCell(k, NAME_BYTES, length);
            for (int i = from; i < from + length; i++) {
                if (i >= 0 && i < source.length) {
                    addByte(source[i]);
                }
            }
            return k;
        }

        int findName(int[] source, int from, int length) {
            if (from < 0 || length < 1 || from + length > source.length) {
                return NONE;
            }
            for (int k = 0; k < names.size; k++) {
                int start = names.cell(k, NAME_START, 0);
                int end = start + names.cell(k, NAME_BYTES, 0);
                boolean same = end - start == length && start >= 0 && end <= bytes.length;
                for (int i = 0; i < length && same; i++) {
                    same = bytes[start + i] == source[from + i];
                }
                if (same) {
                    return k;
                }
            }
            return NONE;
        }

        int byteOfName(int k, int i) {
            return byteBehind(names.cell(k, NAME_START, 0), names.cell(k, NAME_BYTES, 0), i);
        }

        int byteOfString(int j, int i) {
            return byteBehind(operands.cell(j, STRING_START, 0), operands.cell(j, STRING_BYTES, 0), i);
        }

        private int byteBehind(int start, int count, int i) {
            boolean there = start >= 0 && i >= 0 && i < count && start + i < bytes.length;
            return there ? bytes[start + i] : NONE;
        }
    }

    /** The sorts of ITEMS, and what is known of the operators among them. */
    private static final class Items {
        static final int NUMBER = 0;
        static final int NAME = 1;
        static final int LOCAL = 2;
        static final int HERE = 3;
        static final int MINUS_AHEAD = 10;
        static final int NOT_AHEAD = 11;
        static final int PLUS = 12;
        static final int MINUS = 13;
        static final int TIMES = 14;
        static final int OVER = 15;
        static final int REST = 16;
        static final int LEFT = 17;
        static final int RIGHT = 18;
        static final int AND = 19;
        static final int XOR = 20;
        static final int OR = 21;

        // Of PLUS to OR: the more, the tighter.
        private static final int[] LEVELS = {5, 5, 6, 6, 6, 4, 4, 3, 2, 1};
        static final int LOOSEST = 1;
        static final int TIGHTER_THAN_ALL = 7;

        static boolean isTwoSided(int sort) {
            return sort >= PLUS && sort <= OR;
        }

        static boolean isAhead(int sort) {
            return sort == MINUS_AHEAD || sort == NOT_AHEAD;
        }

        /** How tightly a two-sided operator binds; 0 of all that is none. */
        static int levelOf(int sort) {
            int i = sort - PLUS;
            return i >= 0 && i < LEVELS.length ? LEVELS[i] : 0;
        }

        static String signOf(int sort) {
            switch (sort) {
                case NOT_AHEAD:
                    return "~";
                case PLUS:
                    return "+";
                case TIMES:
                    return "*";
                case OVER:
                    return "/";
                case REST:
                    return "%";
                case LEFT:
                    return "<<";
                case RIGHT:
                    return ">>";
                case AND:
                    return "&";
                case XOR:
                    return "^";
                case OR:
                    return "|";
                default:
                    return "-";
            }
        }
    }

    /** The marks 1 .. 4 of MARKED operands. */
    private static final class Marks {
        static final int LAST = 4;

        static String nameOf(int mark) {
            switch (mark) {
                case 1:
                    return "hi";
                case 2:
                    return "lo";
                case 3:
                    return "pcrel_hi";
                default:
                    return "pcrel_lo";
            }
        }

        /** The mark whose name the word is, 0 if it is none's. */
        static int numberOf(Words words, int word) {
            for (int mark = 1; mark <= LAST; mark++) {
                if (words.spells(word, nameOf(mark))) {
                    return mark;
                }
            }
            return 0;
        }
    }

    /** The names of REGISTERS. */
    private static final class Registers {
        static int numberOf(int[] text, int place, int length) {
            if (length < 2 || length > 4 || place < 0 || place + length > text.length) {
                return NONE;
            }
            int packed = 0;
            for (int i = place; i < place + length; i++) {
                packed = packed << 8 | text[i];
            }
            switch (packed) {
                case 'z' << 24 | 'e' << 16 | 'r' << 8 | 'o':
                    return 0;
                case 'r' << 8 | 'a':
                    return 1;
                case 's' << 8 | 'p':
                    return 2;
                case 'g' << 8 | 'p':
                    return 3;
                case 't' << 8 | 'p':
                    return 4;
                case 'f' << 8 | 'p':
                    return 8;
                default:
                    return ofFamily(text[place], memberAt(text, place + 1, length - 1));
            }
        }

        /** The number behind a family's letter, NONE if there is none or it has a needless 0. */
        private static int memberAt(int[] text, int place, int length) {
            if (length < 1 || length > 2 || place < 0 || place + length > text.length) {
                return NONE;
            }
            int member = 0;
            for (int i = place; i < place + length; i++) {
                if (!Words.isDigit(text[i]) || length > 1 && text[place] == '0') {
                    return NONE;
                }
                member = member * 10 + text[i] - '0';
            }
            return member;
        }

        private static int ofFamily(int letter, int member) {
            if (member == NONE) {
                return NONE;
            }
            switch (letter) {
                case 'x':
                    return member <= 31 ? member : NONE;
                case 't':
                    return member <= 2 ? member + 5 : member <= 6 ? member + 25 : NONE;
                case 's':
                    return member <= 1 ? member + 8 : member <= 11 ? member + 16 : NONE;
                case 'a':
                    return member <= 7 ? member + 10 : NONE;
                default:
                    return NONE;
            }
        }
    }

    /** The TEXT, and its WORDS up to its end or up to the first that has a fault of its own. */
    private static final class Words {
        static final int END = 0;
        static final int NAME = 1;
        static final int REGISTER = 2;
        static final int HERE = 3;
        static final int DIGIT = 4;
        static final int NUMBER = 5;
        static final int LOCAL = 6;
        static final int STRING = 7;
        static final int COMMA = 8;
        static final int OPEN = 9;
        static final int CLOSE = 10;
        // Here come the two-sided operators, 12 to 21, as the sorts of their ITEMS.
        static final int COLON = 22;
        static final int TILDE = 23;
        static final int BAD = 24;
        static final int BLANK = 25;

        private static final int KIND = 0;
        private static final int PLACE = 1;
        private static final int VALUE = 2;

        private static final long NUMBERS_END = 1L << 32;
        private static final int NO_DIGIT = 16;

        private final int[] text;
        private final Table table;
        private int length;
        private int limit;
        private int next;
        private int value;

        Words() {
            text = new int[MOST_BYTES];
            // A word a byte, and the end of the last line.
            table = new Table(MOST_BYTES + 1, 3);
        }

        void addByte(int b) {
            if (length < text.length) {
                text[length] = b;
                length++;
            }
        }

        /** Takes the TEXT, which is empty then, and finds its words. */
        void scan() {
            limit = length;
            length = 0;
            next = 0;
            table.size = 0;
            int kind = BLANK;
            for (int turn = 0; turn < MOST_BYTES && next < limit && kind != BAD; turn++) {
                int place = next;
                value = 0;
                kind = scanOne();
                if (kind != BLANK) {
                    addWord(kind, place, value);
                }
            }
            if (kind != BAD) {
                addWord(END, limit, 0);
            }
        }

        private void addWord(int kind, int place, int worth) {
            int word = table.addRow();
            table.setCell(word, KIND, kind);
            table.setCell(word, PLACE, place);
            table.setCell(word, VALUE, worth);
        }

        /** The kind of the word at next, which moves behind it; leaves its value. */
        private int scanOne() {
            int b = byteAt(next);
            if (b == ' ' || b == '\t') {
                next++;
                return BLANK;
            }
            if (b == '\n') {
                next++;
                return END;
            }
            if (b == '#') {
                return scanComment();
            }
            if (isDigit(b)) {
                return scanNumber();
            }
            if (isNameByte(b) && b != '$') {
                return scanName();
            }
            if (b == '\'') {
                return scanCharacter();
            }
            if (b == '"') {
                return scanString();
            }
            return scanSign(b);
        }

        private int bad(int fault) {
            value = fault;
            return BAD;
        }

        /** Stops at what can't be in a COMMENT, too: with such a byte no word can begin, either. */
        private int scanComment() {
            while (next < limit && (byteAt(next) >= 32 && byteAt(next) <= 126 || byteAt(next) == '\t')) {
                next++;
            }
            return BLANK;
        }

        private int scanName() {
            int place = next;
            while (next < limit && isNameByte(byteAt(next))) {
                next++;
            }
            value = next - place;
            if (value > MOST_NAME_BYTES) {
                return bad(2);
            }
            if (value == 1 && byteAt(place) == '.') {
                value = 0;
                return HERE;
            }
            return Registers.numberOf(text, place, value) == NONE ? NAME : REGISTER;
        }

        private int scanNumber() {
            int first = byteAt(next);
            int second = byteAt(next + 1);
            if (first == '0' && second == 'x') {
                return scanDigits(16, next + 2);
            }
            if (first == '0' && second == 'b' && digitOf(byteAt(next + 2)) < 2) {
                return scanDigits(2, next + 2);
            }
            if ((second == 'b' || second == 'f') && !isNameByte(byteAt(next + 2))) {
                value = 2 * digitOf(first) + (second == 'f' ? 1 : 0);
                next += 2;
                return LOCAL;
            }
            return scanDigits(10, next);
        }

        private int scanDigits(int base, int from) {
            int place = next;
            long number = 0;
            next = from;
            while (next < limit && digitOf(byteAt(next)) < base) {
                number = Math.min(number * base + digitOf(byteAt(next)), NUMBERS_END);
                next++;
            }
            if (next == from || number == NUMBERS_END) {
                return bad(3);
            }
            value = (int) number;
            return next - place == 1 ? DIGIT : NUMBER;
        }

        private int scanCharacter() {
            int code = codeAt(next + 1, '\'');
            int close = next + 1 + widthAt(next + 1);
            if (code == NONE || byteAt(close) != '\'') {
                return bad(4);
            }
            value = code;
            next = close + 1;
            return NUMBER;
        }

        private int scanString() {
            int count = 0;
            int close = next + 1;
            for (; close < limit && codeAt(close, '"') != NONE; close += widthAt(close)) {
                count++;
            }
            if (byteAt(close) != '"') {
                return bad(4);
            }
            value = count;
            next = close + 1;
            return STRING;
        }

        private int scanSign(int b) {
            if ((b == '<' || b == '>') && byteAt(next + 1) == b) {
                next += 2;
                return b == '<' ? Items.LEFT : Items.RIGHT;
            }
            int kind = kindOfSign(b);
            if (kind == BAD) {
                return bad(1);
            }
            next++;
            return kind;
        }

        private static int kindOfSign(int b) {
            switch (b) {
                case ',':
                    return COMMA;
                case '(':
                    return OPEN;
                case ')':
                    return CLOSE;
                case ':':
                    return COLON;
                case '~':
                    return TILDE;
                case '+':
                    return Items.PLUS;
                case '-':
                    return Items.MINUS;
                case '*':
                    return Items.TIMES;
                case '/':
                    return Items.OVER;
                case '%':
                    return Items.REST;
                case '&':
                    return Items.AND;
                case '^':
                    return Items.XOR;
                case '|':
                    return Items.OR;
                default:
                    return BAD;
            }
        }

        int byteAt(int place) {
            return place >= 0 && place < limit && place < text.length ? text[place] : NONE;
        }

        /** What a byte within a CHARACTER or STRING stands for, NONE if it can't be there. */
        int codeAt(int place, int around) {
            int b = byteAt(place);
            if (b != '\\') {
                return b >= 32 && b <= 126 && b != around ? b : NONE;
            }
            int escaped = byteAt(place + 1);
            switch (escaped) {
                case 'n':
                    return 10;
                case 't':
                    return 9;
                case '0':
                    return 0;
                case '\\':
                case '\'':
                case '"':
                    return escaped;
                default:
                    return NONE;
            }
        }

        int widthAt(int place) {
            return byteAt(place) == '\\' ? 2 : 1;
        }

        static boolean isDigit(int b) {
            return b >= '0' && b <= '9';
        }

        static boolean isNameByte(int b) {
            return b >= 'a' && b <= 'z' || b >= 'A' && b <= 'Z' || isDigit(b)
                || b == '_' || b == '.' || b == '$';
        }

        /** A digit's worth; NO_DIGIT, which is in no base, for all else. */
        private static int digitOf(int b) {
            if (isDigit(b)) {
                return b - '0';
            }
            if (b >= 'a' && b <= 'f') {
                return b - 'a' + 10;
            }
            return b >= 'A' && b <= 'F' ? b - 'A' + 10 : NO_DIGIT;
        }

        int size() {
            return table.size;
        }

        int kindOf(int word) {
            return table.cell(word, KIND, END);
        }

        int placeOf(int word) {
            return table.cell(word, PLACE, limit);
        }

        /** Of numbers and LOCALS what their ITEM tells, of names and STRINGS how many bytes they have. */
        int valueOf(int word) {
            return table.cell(word, VALUE, 0);
        }

        boolean spells(int word, String wanted) {
            if (kindOf(word) != NAME || valueOf(word) != wanted.length()) {
                return false;
            }
            for (int i = 0; i < wanted.length(); i++) {
                if (byteAt(placeOf(word) + i) != wanted.charAt(i)) {
                    return false;
                }
            }
            return true;
        }
    }

    /** Reads the words into a book; what was read last is only given up for a text without a FAULT. */
    private static final class Reader {
        private static final int MISPLACED = 5;
        private static final int NOT_FOR_IT = 6;
        private static final int TOO_DEEP = 7;
        private static final int TOO_MANY = 8;

        private final Words words;
        private Book done;
        private Book open;
        private int at;
        private int kind;
        private int place;
        private int operandRow;
        private int firstItem;
        private int countedItems;
        private int faultNumber;
        private int faultPlace;

        Reader() {
            words = new Words();
            done = new Book();
            open = new Book();
            faultPlace = NONE;
        }

        void begin() {
            faultNumber = 0;
            faultPlace = NONE;
            open.clear();
            words.scan();
            at = NONE;
            step();
        }

        boolean hasLine() {
            return at < words.size();
        }

        int finish() {
            Book old = done;
            done = open;
            open = old;
            return done.statements.size;
        }

        /** A word's own fault counts only once the word is reached, so that faults ahead of it go first. */
        private void step() {
            at++;
            kind = words.kindOf(at);
            place = words.placeOf(at);
            if (kind == Words.BAD) {
                refuse(words.valueOf(at));
            }
        }

        private void refuse(int number) {
            faultNumber = number;
            faultPlace = place;
            throw new IllegalArgumentException("the text has a fault");
        }

        private void demand(int wanted) {
            if (kind != wanted) {
                refuse(MISPLACED);
            }
        }

        void readLabels(int line) {
            for (int n = 0; n <= MOST_STATEMENTS && isAtLabel(); n++) {
                if (kind == Words.DIGIT) {
                    addStatement(Book.DIGIT_LABEL, words.valueOf(at), line);
                } else {
                    addStatement(Book.NAME_LABEL, nameNumber(), line);
                }
                step();
                demand(Words.COLON);
                step();
            }
        }

        private boolean isAtLabel() {
            return kind == Words.DIGIT
                || kind == Words.NAME && words.kindOf(at + 1) == Words.COLON;
        }

        /** Reads the word of a line, if it has one, with its operands, and the line's end. */
        void readWord(int line) {
            if (kind == Words.NAME || kind == Words.REGISTER) {
                int k = addStatement(Book.WORD, nameNumber(), line);
                int first = open.operands.size;
                step();
                if (kind != Words.END) {
                    readOperand();
                }
                for (int n = 0; n <= MOST_OPERANDS && kind == Words.COMMA; n++) {
                    step();
                    readOperand();
                }
                open.statements.setCell(k, Book.OPERANDS, open.operands.size - first);
            }
            demand(Words.END);
            step();
        }

        private int addStatement(int sort, int value, int line) {
            if (open.statements.isFull()) {
                refuse(TOO_MANY);
            }
            int k = open.statements.addRow();
            open.statements.setCell(k, Book.SORT, sort);
            open.statements.setCell(k, Book.VALUE, value);
            open.statements.setCell(k, Book.FIRST_OPERAND, open.operands.size);
            open.statements.setCell(k, Book.STATEMENT_PLACE, place);
            open.statements.setCell(k, Book.LINE, line);
            return k;
        }

        private int nameNumber() {
            int length = words.valueOf(at);
            int known = open.findName(words.text, place, length);
            if (known != NONE) {
                return known;
            }
            if (open.names.isFull()) {
                refuse(TOO_MANY);
            }
            return open.addName(words.text, place, length);
        }

        private void readOperand() {
            boolean marked = kind == Items.REST;
            if (kind == Words.REGISTER) {
                addOperand(Book.REGISTER_OPERAND);
                readRegister();
            } else if (kind == Words.STRING) {
                addOperand(Book.STRING_OPERAND);
                readString();
            } else if (kind == Words.OPEN && words.kindOf(at + 1) == Words.REGISTER) {
                addOperand(Book.MEMORY_OPERAND);
                countItem();
                open.addItem(Items.NUMBER, 0);
                readBase();
            } else if (marked || canBeginExpression(kind)) {
                addOperand(Book.EXPRESSION_OPERAND);
                if (marked) {
                    readMark();
                }
                readSides(Items.LOOSEST, 1);
                if (marked) {
                    demand(Words.CLOSE);
                    step();
                }
                if (kind == Words.OPEN) {
                    open.operands.setCell(operandRow, Book.SORT, Book.MEMORY_OPERAND);
                    readBase();
                }
            } else {
                refuse(MISPLACED);
            }
            open.operands.setCell(operandRow, Book.ITEMS, open.items.size - firstItem);
        }

        private void addOperand(int sort) {
            if (open.operands.isFull()) {
                refuse(TOO_MANY);
            }
            firstItem = open.items.size;
            countedItems = 0;
            operandRow = open.operands.addRow();
            open.operands.setCell(operandRow, Book.SORT, sort);
            open.operands.setCell(operandRow, Book.REGISTER, NONE);
            open.operands.setCell(operandRow, Book.FIRST_ITEM, firstItem);
            open.operands.setCell(operandRow, Book.OPERAND_PLACE, place);
        }

        private void readRegister() {
            int number = Registers.numberOf(words.text, place, words.valueOf(at));
            open.operands.setCell(operandRow, Book.REGISTER, number);
            step();
        }

        private void readBase() {
            step();
            demand(Words.REGISTER);
            readRegister();
            demand(Words.CLOSE);
            step();
        }

        private void readString() {
            int count = words.valueOf(at);
            open.operands.setCell(operandRow, Book.STRING_START, open.byteCount);
            open.operands.setCell(operandRow, Book.STRING_BYTES, count);
            int from = place + 1;
            for (int n = 0; n < count; n++) {
                open.addByte(words.codeAt(from, '"'));
                from += words.widthAt(from);
            }
            step();
        }

        /** Reads % and the mark and the parenthesis behind it. */
        private void readMark() {
            step();
            if (kind != Words.NAME && kind != Words.REGISTER && kind != Words.HERE) {
                refuse(MISPLACED);
            }
            int mark = Marks.numberOf(words, at);
            if (mark == 0) {
                refuse(NOT_FOR_IT);
            }
            open.operands.setCell(operandRow, Book.MARK, mark);
            step();
            demand(Words.OPEN);
            step();
        }

        private static boolean canBeginExpression(int kind) {
            switch (kind) {
                case Words.NAME:
                case Words.HERE:
                case Words.DIGIT:
                case Words.NUMBER:
                case Words.LOCAL:
                case Words.OPEN:
                case Words.TILDE:
                case Items.MINUS:
                    return true;
                default:
                    return false;
            }
        }

        /** Reads what operators that bind at least so tightly join. */
        private void readSides(int level, int depth) {
            readOne(depth);
            for (int n = 0; n < MOST_ITEMS_OF_ONE && Items.levelOf(kind) >= level; n++) {
                int sign = kind;
                countItem();
                step();
                readSides(Items.levelOf(sign) + 1, depth);
                open.addItem(sign, 0);
            }
        }

        private void readOne(int depth) {
            checkOne(depth);
            if (kind == Words.OPEN) {
                step();
                readSides(Items.LOOSEST, depth + 1);
                demand(Words.CLOSE);
                step();
                return;
            }
            countItem();
            int sort = sortAhead(kind);
            int value = kind == Words.NAME ? nameNumber() : words.valueOf(at);
            step();
            if (Items.isAhead(sort)) {
                readOne(depth + 1);
            }
            open.addItem(sort, value);
        }

        /** The sort of the ITEM that a word makes where one of an operator's sides must begin. */
        private static int sortAhead(int kind) {
            switch (kind) {
                case Items.MINUS:
                    return Items.MINUS_AHEAD;
                case Words.TILDE:
                    return Items.NOT_AHEAD;
                case Words.NAME:
                    return Items.NAME;
                case Words.LOCAL:
                    return Items.LOCAL;
                case Words.HERE:
                    return Items.HERE;
                default:
                    return Items.NUMBER;
            }
        }

        /** The least fault's number comes first, as all of them would be at this word. */
        private void checkOne(int depth) {
            if (kind == Words.REGISTER) {
                refuse(NOT_FOR_IT);
            }
            if (!canBeginExpression(kind)) {
                refuse(MISPLACED);
            }
            if (depth > DEEPEST) {
                refuse(TOO_DEEP);
            }
        }

        /** An operator is counted at its sign, though its ITEM is only added behind its sides. */
        private void countItem() {
            countedItems++;
            if (countedItems > MOST_ITEMS_OF_ONE || firstItem + countedItems > MOST_ITEMS) {
                refuse(TOO_MANY);
            }
        }
    }

    /** Works out CONSTANTS. */
    private static final class Reckoner {
        private final int[] stack;

        Reckoner() {
            stack = new int[MOST_ITEMS_OF_ONE];
        }

        long workOut(Book book, int j) {
            int first = book.operands.cell(j, Book.FIRST_ITEM, 0);
            int count = book.operands.cell(j, Book.ITEMS, 0);
            int size = 0;
            for (int t = first; t < first + count; t++) {
                int sort = book.items.cell(t, Book.SORT, Items.HERE);
                if (sort == Items.NUMBER && size < stack.length) {
                    stack[size] = book.items.cell(t, Book.VALUE, 0);
                    size++;
                } else if (Items.isAhead(sort) && size >= 1) {
                    stack[size - 1] = sort == Items.NOT_AHEAD ? ~stack[size - 1] : -stack[size - 1];
                } else if (Items.isTwoSided(sort) && size >= 2) {
                    long joined = join(sort, stack[size - 2], stack[size - 1]);
                    if (joined == NOTHING) {
                        return NOTHING;
                    }
                    size--;
                    stack[size - 1] = (int) joined;
                } else {
                    return NOTHING;
                }
            }
            return size == 1 ? stack[0] : NOTHING;
        }

        private static long join(int sort, int left, int right) {
            switch (sort) {
                case Items.PLUS:
                    return left + right;
                case Items.MINUS:
                    return left - right;
                case Items.TIMES:
                    return left * right;
                case Items.OVER:
                    return right == 0 ? NOTHING : left / right;
                case Items.REST:
                    return right == 0 ? NOTHING : left % right;
                case Items.LEFT:
                    return left << (right & 31);
                case Items.RIGHT:
                    return left >>> (right & 31);
                case Items.AND:
                    return left & right;
                case Items.XOR:
                    return left ^ right;
                default:
                    return left | right;
            }
        }
    }

    /** Writes OUT, a STATEMENT as a TEXT. */
    private static final class Teller {
        // Nothing told is longer than twice what was read: at worst 1+ becomes 1, blank, +, blank.
        private static final int MOST_OUT = 2 * MOST_BYTES;
        private static final int MOST_DIGITS = 10;

        private final int[] out;
        private int size;
        // Of each item of the expression that is told: the first item of what it works on, or itself.
        private final int[] begins;
        private int firstItem;
        private int itemCount;

        Teller() {
            out = new int[MOST_OUT];
            begins = new int[MOST_ITEMS_OF_ONE];
        }

        int write(Book book, int k) {
            int sort = book.statements.cell(k, Book.SORT, NONE);
            if (sort == NONE) {
                return NONE;
            }
            size = 0;
            int value = book.statements.cell(k, Book.VALUE, 0);
            if (sort == Book.DIGIT_LABEL) {
                putByte('0' + value);
            } else {
                putName(book, value);
            }
            if (sort != Book.WORD) {
                putByte(':');
            }
            int first = book.statements.cell(k, Book.FIRST_OPERAND, 0);
            int count = book.statements.cell(k, Book.OPERANDS, 0);
            for (int n = 0; n < count; n++) {
                putText(n == 0 ? " " : ", ");
                putOperand(book, first + n);
            }
            return size;
        }

        private void putByte(int b) {
            if (size < out.length) {
                out[size] = b;
                size++;
            }
        }

        int byteOfOut(int i) {
            return i >= 0 && i < size && i < out.length ? out[i] : NONE;
        }

        private void putText(String text) {
            for (int i = 0; i < text.length(); i++) {
                putByte(text.charAt(i));
            }
        }

        private void putName(Book book, int k) {
            int start = book.names.cell(k, Book.NAME_START, 0);
            int end = start + book.names.cell(k, Book.NAME_BYTES, 0);
            for (int i = start; i >= 0 && i < end && i < book.bytes.length; i++) {
                putByte(book.bytes[i]);
            }
        }

        /** In decimal, with the int taken as one of 0 .. 2^32 - 1. */
        private void putNumber(int number) {
            long rest = number & 0xFFFFFFFFL;
            long unit = 1;
            for (int i = 1; i < MOST_DIGITS && unit * 10 <= rest; i++) {
                unit *= 10;
            }
            for (; unit > 0; unit /= 10) {
                putByte('0' + (int) (rest / unit % 10));
            }
        }

        private void putOperand(Book book, int j) {
            int sort = book.operands.cell(j, Book.SORT, NONE);
            if (sort == Book.STRING_OPERAND) {
                putString(book, j);
            } else if (sort == Book.REGISTER_OPERAND) {
                putRegister(book, j);
            } else {
                putExpression(book, j);
            }
            if (sort == Book.MEMORY_OPERAND) {
                putByte('(');
                putRegister(book, j);
                putByte(')');
            }
        }

        private void putRegister(Book book, int j) {
            putByte('x');
            putNumber(book.operands.cell(j, Book.REGISTER, 0));
        }

        private void putString(Book book, int j) {
            putByte('"');
            int count = book.operands.cell(j, Book.STRING_BYTES, 0);
            for (int i = 0; i < count; i++) {
                putStringByte(book.byteOfString(j, i));
            }
            putByte('"');
        }

        private void putStringByte(int b) {
            switch (b) {
                case 10:
                    putText("\\n");
                    break;
                case 9:
                    putText("\\t");
                    break;
                case 0:
                    putText("\\0");
                    break;
                case '\\':
                    putText("\\\\");
                    break;
                case '"':
                    putText("\\\"");
                    break;
                default:
                    putByte(b);
                    break;
            }
        }

        private void putExpression(Book book, int j) {
            int mark = book.operands.cell(j, Book.MARK, 0);
            firstItem = book.operands.cell(j, Book.FIRST_ITEM, 0);
            itemCount = Math.min(book.operands.cell(j, Book.ITEMS, 0), MOST_ITEMS_OF_ONE);
            findBegins(book);
            if (mark != 0) {
                putByte('%');
                putText(Marks.nameOf(mark));
                putByte('(');
            }
            putTree(book, itemCount - 1, Items.LOOSEST, 0);
            if (mark != 0) {
                putByte(')');
            }
        }

        private void findBegins(Book book) {
            for (int i = 0; i < itemCount && i < begins.length; i++) {
                int sort = sortAt(book, i);
                if (Items.isTwoSided(sort)) {
                    begins[i] = beginOf(beginOf(i - 1) - 1);
                } else {
                    begins[i] = Items.isAhead(sort) ? beginOf(i - 1) : i;
                }
            }
        }

        private int beginOf(int i) {
            return i >= 0 && i < itemCount && i < begins.length ? begins[i] : NONE;
        }

        private int sortAt(Book book, int i) {
            return book.items.cell(firstItem + i, Book.SORT, Items.NUMBER);
        }

        /** An item with all that it works on; in parentheses if it is two-sided and of a lower level. */
        private void putTree(Book book, int root, int level, int depth) {
            if (root < 0 || depth > MOST_ITEMS_OF_ONE) {
                return;
            }
            int sort = sortAt(book, root);
            int own = Items.levelOf(sort);
            boolean wrapped = Items.isTwoSided(sort) && own < level;
            if (wrapped) {
                putByte('(');
            }
            if (Items.isTwoSided(sort)) {
                putTree(book, beginOf(root - 1) - 1, own, depth + 1);
                putByte(' ');
                putText(Items.signOf(sort));
                putByte(' ');
                putTree(book, root - 1, own + 1, depth + 1);
            } else if (Items.isAhead(sort)) {
                putText(Items.signOf(sort));
                putTree(book, root - 1, Items.TIGHTER_THAN_ALL, depth + 1);
            } else {
                putLeaf(book, sort, book.items.cell(firstItem + root, Book.VALUE, 0));
            }
            if (wrapped) {
                putByte(')');
            }
        }

        private void putLeaf(Book book, int sort, int value) {
            switch (sort) {
                case Items.NAME:
                    putName(book, value);
                    break;
                case Items.LOCAL:
                    putByte('0' + (value >> 1));
                    putByte((value & 1) == 0 ? 'b' : 'f');
                    break;
                case Items.HERE:
                    putByte('.');
                    break;
                default:
                    putNumber(value);
                    break;
            }
        }
    }
}
