import java.util.Arrays;

/**
 * A reader of a query language for tables: it tells where a text is none, and writes a statement
 * that is one in its plain form, in which all that makes no difference is gone.
 */
public final class QueryReader {
    public static final int NONE = -1;

    private static final int TAPE_ROOM = 65536;
    private static final int FEED_BYTES = 20;

    /** Far above what any text needs: every turn of a loop bounded by it takes a token of the tape. */
    private static final int FAR = 1000000;

    // What an expression is made by, the loosest first. Binary operators of one number are together.
    private static final int BY_NOTHING = 0;
    private static final int BY_OR = 1;
    private static final int BY_AND = 2;
    private static final int BY_NOT = 3;
    private static final int BY_COMPARING = 4;
    private static final int BY_BARS = 5;
    private static final int BY_ADDING = 6;
    private static final int BY_MULTIPLYING = 7;
    private static final int BY_MINUS = 8;

    private static final int NO_STATEMENT = 0;
    private static final int CREATE_TABLE = 1;
    private static final int CREATE_INDEX = 2;
    private static final int DROP_TABLE = 3;
    private static final int DROP_INDEX = 4;
    private static final int INSERT_ROWS = 5;
    private static final int UPDATE_ROWS = 6;
    private static final int DELETE_ROWS = 7;
    private static final int A_QUERY = 8;
    private static final int BEGIN_WORK = 9;
    private static final int COMMIT_WORK = 10;
    private static final int ROLLBACK_WORK = 11;
    private static final int SET_SAVEPOINT = 12;
    private static final int ROLLBACK_TO = 13;
    private static final int LOCK_TABLE = 14;
    private static final int PREPARE_WORK = 15;
    private static final int COMMIT_PREPARED = 16;
    private static final int ROLLBACK_PREPARED = 17;

    private static final Sort[] SORTS = Sort.values();

    private final Grammar grammar = new Grammar();
    private final Row tape = grammar.text;
    private final Row plain = grammar.plain;
    private final Names namesSeen = new Names();
    private int kindRead = NO_STATEMENT;

    public QueryReader() {
    }

    public void feed(int a, int b, int c, int d, int e) throws IllegalStateException {
        if (tape.size() > TAPE_ROOM - FEED_BYTES) {
            throw new IllegalStateException("no room for twenty bytes");
        }
        tape.addFour(a);
        tape.addFour(b);
        tape.addFour(c);
        tape.addFour(d);
        tape.addFour(e);
    }

    public void end(int n) throws IllegalArgumentException {
        if (n < 0 || n > tape.size()) {
            throw new IllegalArgumentException("the tape has not so many bytes");
        }
        tape.cut(n);
    }

    public int read() {
        int fault = 0;
        grammar.start();
        try {
            kindRead = grammar.statement();
            grammar.finish();
        } catch (IllegalArgumentException refused) {
            kindRead = NO_STATEMENT;
            plain.cut(0);
            fault = grammar.place() + 1;
        }
        tape.cut(0);
        return fault;
    }

    public int kind() {
        return kindRead;
    }

    public int length() {
        return plain.size();
    }

    public int letter(int i) throws IndexOutOfBoundsException {
        if (i < 0 || i >= plain.size()) {
            throw new IndexOutOfBoundsException("the plain form has no such character");
        }
        return plain.at(i);
    }

    public int mark() {
        return plain.folded();
    }

    public int names() {
        return namesSeen.different(plain);
    }

    public int depth() {
        return grammar.most();
    }

    public boolean again() {
        boolean goes = plain.size() > 0 && plain.size() <= TAPE_ROOM;
        if (goes) {
            tape.become(plain);
        }
        return goes;
    }

    /** What a token is. The keywords come first and in the alphabet's order, so that they can be searched. */
    private enum Sort {
        ABS("ABS"), ALL("ALL"), AND("AND", BY_AND), AS("AS"), ASC("ASC"), AVG("AVG"), BEGIN("BEGIN"),
        BETWEEN("BETWEEN"), BY("BY"), CASCADE("CASCADE"), CASE("CASE"), CAST("CAST"), CHECK("CHECK"),
        COALESCE("COALESCE"), COMMIT("COMMIT"), COMMITTED("COMMITTED"), COUNT("COUNT"), CREATE("CREATE"),
        CROSS("CROSS"), DEFAULT("DEFAULT"), DELETE("DELETE"), DESC("DESC"), DISTINCT("DISTINCT"),
        DROP("DROP"), ELSE("ELSE"), END("END"), EXCLUSIVE("EXCLUSIVE"), EXISTS("EXISTS"), FROM("FROM"),
        GROUP("GROUP"), HAVING("HAVING"), IN("IN"), INDEX("INDEX"), INNER("INNER"), INSERT("INSERT"),
        INT("INT"), INTO("INTO"), IS("IS"), JOIN("JOIN"), KEY("KEY"), LEFT("LEFT"), LENGTH("LENGTH"),
        LIKE("LIKE"), LIMIT("LIMIT"), LOCK("LOCK"), LOWER("LOWER"), MAX("MAX"), MIN("MIN"), MODE("MODE"),
        NOT("NOT"), NULL("NULL"), NULLIF("NULLIF"), OFFSET("OFFSET"), ON("ON"), OR("OR", BY_OR),
        ORDER("ORDER"), OUTER("OUTER"), PREPARE("PREPARE"), PREPARED("PREPARED"), PRIMARY("PRIMARY"),
        READ("READ"), REFERENCES("REFERENCES"), RESTRICT("RESTRICT"), ROLLBACK("ROLLBACK"),
        SAVEPOINT("SAVEPOINT"), SELECT("SELECT"), SERIALIZABLE("SERIALIZABLE"), SET("SET"), SHARE("SHARE"),
        SUBSTR("SUBSTR"), SUM("SUM"), TABLE("TABLE"), TEXT("TEXT"), THEN("THEN"), TO("TO"),
        UNCOMMITTED("UNCOMMITTED"), UNIQUE("UNIQUE"), UPDATE("UPDATE"), UPPER("UPPER"), VALUES("VALUES"),
        WHEN("WHEN"), WHERE("WHERE"),

        OPEN("("), CLOSE(")"), COMMA(","), DOT("."), SEMICOLON(";"),
        PLUS("+", BY_ADDING), MINUS("-", BY_ADDING),
        STAR("*", BY_MULTIPLYING), SLASH("/", BY_MULTIPLYING), PERCENT("%", BY_MULTIPLYING),
        BARS("||", BY_BARS),
        EQUAL("=", BY_COMPARING), UNEQUAL("<>", BY_COMPARING), LESS("<", BY_COMPARING),
        AT_MOST("<=", BY_COMPARING), MORE(">", BY_COMPARING), AT_LEAST(">=", BY_COMPARING),

        /** These have no text of their own; FINISH is the text's end, WRONG what can't stand. */
        NAME(""), NUMBER(""), STRING(""), FINISH(""), WRONG("");

        private final String text;
        /** What an expression is made by when this stands between its operands. */
        private final int makes;

        Sort(String text) {
            this(text, BY_NOTHING);
        }

        Sort(String text, int makes) {
            this.text = text;
            this.makes = makes;
        }
    }

    /** Bytes one behind the other. The room grows with them, so that an object with little to do stays small. */
    private static final class Row {
        private static final int FIRST_ROOM = 256;
        /** The dearest text, sources with a comma between two, becomes six and a half times as long in its plain form. */
        private static final int MOST_ROOM = 8 * TAPE_ROOM;
        private static final int BRACKET_AND_BLANK = 2;

        private byte[] bytes = new byte[FIRST_ROOM];
        private int size = 0;

        int size() {
            return size;
        }

        int at(int i) {
            return i >= 0 && i < size && i < bytes.length ? bytes[i] & 255 : NONE;
        }

        void add(int value) {
            if (size >= bytes.length && bytes.length < MOST_ROOM) {
                bytes = Arrays.copyOf(bytes, bytes.length * 2);
            }
            if (size >= 0 && size < bytes.length) {
                bytes[size] = (byte) value;
                size++;
            }
        }

        void addFour(int value) {
            add(value >>> 24);
            add(value >>> 16);
            add(value >>> 8);
            add(value);
        }

        void cut(int n) {
            if (n >= 0 && n < size) {
                size = n;
            }
        }

        void become(Row other) {
            if (bytes.length < other.size) {
                bytes = new byte[other.bytes.length];
            }
            if (other.size <= bytes.length && other.size <= other.bytes.length) {
                System.arraycopy(other.bytes, 0, bytes, 0, other.size);
                size = other.size;
            }
        }

        /** Every word has a blank behind it, so that the place of the next one is known before it comes. */
        void word(String text) {
            for (int i = 0; i < text.length(); i++) {
                add(text.charAt(i));
            }
            add(' ');
        }

        void copied(Row text, int from, int to) {
            for (int i = from; i < to; i++) {
                add(text.at(i));
            }
            add(' ');
        }

        void inSmallLetters(Row text, int from, int to) {
            for (int i = from; i < to; i++) {
                int here = text.at(i);
                add(here >= 'A' && here <= 'Z' ? here - 'A' + 'a' : here);
            }
            add(' ');
        }

        /** Puts a ( before the words from start on. */
        void openAt(int start) {
            int moved = size - start;
            add(' ');
            add(' ');
            boolean fits = start + BRACKET_AND_BLANK + moved <= size && size <= bytes.length;
            if (start >= 0 && moved >= 0 && fits) {
                System.arraycopy(bytes, start, bytes, start + BRACKET_AND_BLANK, moved);
                bytes[start] = '(';
                bytes[start + 1] = ' ';
            }
        }

        /** Takes the last word, a ), away again, as more comes into its brackets. */
        void reopen() {
            cut(size - BRACKET_AND_BLANK);
        }

        void dropLastBlank() {
            cut(size - 1);
        }

        int folded() {
            int sum = 0;
            for (int i = 0; i < size; i++) {
                sum = 31 * sum + at(i);
            }
            return sum;
        }
    }

    /** Counts the different names of a plain form. */
    private static final class Names {
        private static final int FEWEST_SLOTS = 16;
        private static final int MOST_DOUBLINGS = 25;

        /** A table of the names met: a name's place + 1, or 0 in a free slot. */
        private int[] slots = new int[FEWEST_SLOTS];

        /** Names alone begin with a small letter or _ there, as keywords have great ones; but a string holds anything. */
        int different(Row plain) {
            int span = clearSlots(plain.size());
            int count = 0;
            int before = ' ';
            boolean quoted = false;
            for (int i = 0; i < plain.size(); i++) {
                int here = plain.at(i);
                if (here == '\'') {
                    quoted = !quoted;
                }
                boolean begins = before == ' ' && (here == '_' || here >= 'a' && here <= 'z');
                if (begins && !quoted && isNew(plain, i, span)) {
                    count++;
                }
                before = here;
            }
            return count;
        }

        /** Frees at least two slots for each name that so many characters can hold; how many: a power of two. */
        private int clearSlots(int characters) {
            int span = FEWEST_SLOTS;
            for (int i = 0; i < MOST_DOUBLINGS && span <= characters; i++) {
                span = span * 2;
            }
            if (slots.length < span) {
                slots = new int[span];
            }
            for (int i = 0; i < span && i < slots.length; i++) {
                slots[i] = 0;
            }
            return span;
        }

        private boolean isNew(Row plain, int from, int span) {
            int slot = hash(plain, from) & (span - 1);
            for (int i = 0; i < span && slot >= 0 && slot < slots.length; i++) {
                if (slots[slot] == 0) {
                    slots[slot] = from + 1;
                    return true;
                }
                if (isSame(plain, slots[slot] - 1, from)) {
                    return false;
                }
                slot = (slot + 1) & (span - 1);
            }
            return false;
        }

        private static int hash(Row plain, int from) {
            int hash = 0;
            for (int i = from; i < plain.size() && plain.at(i) != ' '; i++) {
                hash = 31 * hash + plain.at(i);
            }
            return hash ^ (hash >>> 15);
        }

        /** A name ends at a blank, or where the plain form does. */
        private static boolean isSame(Row plain, int one, int other) {
            for (int i = 0; i < plain.size(); i++) {
                int left = plain.at(one + i);
                int right = plain.at(other + i);
                boolean leftEnds = left == ' ' || left == NONE;
                boolean rightEnds = right == ' ' || right == NONE;
                if (leftEnds || rightEnds) {
                    return leftEnds && rightEnds;
                }
                if (left != right) {
                    return false;
                }
            }
            return false;
        }
    }

    /** The tokens of a text, up to the first that can't stand or to FINISH. */
    private static final class Tokens {
        private static final int FIRST_ROOM = 64;
        /** Room for a token in every byte of the tape and for its end. */
        private static final int MOST_ROOM = 2 * TAPE_ROOM;
        private static final int KEYWORDS = 82;
        private static final int LONGEST_WORD = 30;
        private static final int LONGEST_NUMBER = 18;
        private static final int LONGEST_STRING = 200;

        private Sort[] sorts = new Sort[FIRST_ROOM];
        private int[] froms = new int[FIRST_ROOM];
        private int[] tos = new int[FIRST_ROOM];
        private int count = 0;
        /** Where the token that was looked at last ends. */
        private int reach = 0;

        Sort sort(int i) {
            Sort sort = i >= 0 && i < count && i < sorts.length ? sorts[i] : Sort.FINISH;
            return sort == null ? Sort.FINISH : sort;
        }

        int from(int i) {
            return i >= 0 && i < count && i < froms.length ? froms[i] : 0;
        }

        int to(int i) {
            return i >= 0 && i < count && i < tos.length ? tos[i] : 0;
        }

        void scan(Row text) {
            boolean more = true;
            count = 0;
            reach = 0;
            for (int i = 0; i < FAR && more; i++) {
                int from = behindBlanks(text, reach);
                Sort sort = sortFrom(text, from);
                keep(sort, from);
                more = sort != Sort.FINISH && sort != Sort.WRONG;
            }
        }

        private void keep(Sort sort, int from) {
            if (count >= sorts.length && sorts.length < MOST_ROOM) {
                widen();
            }
            if (count >= 0 && count < sorts.length && count < froms.length && count < tos.length) {
                sorts[count] = sort;
                froms[count] = from;
                tos[count] = reach;
                count++;
            }
        }

        private void widen() {
            Sort[] wider = new Sort[sorts.length * 2];
            for (int i = 0; i < sorts.length && i < wider.length; i++) {
                wider[i] = sorts[i];
            }
            sorts = wider;
            froms = Arrays.copyOf(froms, froms.length * 2);
            tos = Arrays.copyOf(tos, tos.length * 2);
        }

        private static int behindBlanks(Row text, int place) {
            boolean comment = false;
            for (int i = place; i < text.size(); i++) {
                int here = text.at(i);
                if (comment) {
                    comment = here != 10;
                } else if (here == '-' && text.at(i + 1) == '-') {
                    comment = true;
                } else if (here != 9 && here != 10 && here != 13 && here != ' ') {
                    return i;
                }
            }
            return text.size();
        }

        private Sort sortFrom(Row text, int from) {
            int first = text.at(from);
            reach = from;
            if (first == NONE) {
                return Sort.FINISH;
            }
            if (isDigit(first)) {
                return digits(text, from);
            }
            if (isOfWord(first)) {
                return word(text, from);
            }
            return first == '\'' ? string(text, from) : sign(first, text.at(from + 1));
        }

        private static boolean isDigit(int c) {
            return c >= '0' && c <= '9';
        }

        private static boolean isOfWord(int c) {
            return c >= 'a' && c <= 'z' || c >= 'A' && c <= 'Z' || c == '_' || c >= '0' && c <= '9';
        }

        private Sort digits(Row text, int from) {
            int to = from;
            for (int i = from; i < text.size() && isDigit(text.at(i)); i++) {
                to = i + 1;
            }
            reach = to;
            return to - from > LONGEST_NUMBER ? Sort.WRONG : Sort.NUMBER;
        }

        private Sort word(Row text, int from) {
            int to = from;
            for (int i = from; i < text.size() && isOfWord(text.at(i)); i++) {
                to = i + 1;
            }
            reach = to;
            return to - from > LONGEST_WORD ? Sort.WRONG : keywordOrName(text, from, to);
        }

        private static Sort keywordOrName(Row text, int from, int to) {
            int low = 0;
            int high = KEYWORDS;
            for (int i = 0; i < KEYWORDS && low < high && high <= SORTS.length; i++) {
                int middle = (low + high) >>> 1;
                int order = order(text, from, to, SORTS[middle].text);
                if (order == 0) {
                    return SORTS[middle];
                }
                if (order < 0) {
                    high = middle;
                } else {
                    low = middle + 1;
                }
            }
            return Sort.NAME;
        }

        /** Below 0 when the text's word comes before the keyword, 0 when it is that, above 0 when behind. */
        private static int order(Row text, int from, int to, String keyword) {
            for (int i = 0; i < keyword.length() && from + i < to; i++) {
                int here = text.at(from + i);
                int great = here >= 'a' && here <= 'z' ? here - 'a' + 'A' : here;
                if (great != keyword.charAt(i)) {
                    return great - keyword.charAt(i);
                }
            }
            return to - from - keyword.length();
        }

        private Sort string(Row text, int from) {
            int characters = 0;
            for (int i = from + 1; i < text.size(); i++) {
                int here = text.at(i);
                if (here == '\'') {
                    if (text.at(i + 1) != '\'') {
                        reach = i + 1;
                        return characters > LONGEST_STRING ? Sort.WRONG : Sort.STRING;
                    }
                    i++;
                } else if (here < 32 || here > 126) {
                    return Sort.WRONG;
                }
                characters++;
            }
            return Sort.WRONG;
        }

        private Sort sign(int first, int second) {
            Sort twofold = twofoldSign(first, second);
            reach += twofold == Sort.WRONG ? 1 : 2;
            return twofold == Sort.WRONG ? singleSign(first) : twofold;
        }

        private static Sort twofoldSign(int first, int second) {
            if (first == '|' && second == '|') {
                return Sort.BARS;
            }
            if (first == '<' && second == '>') {
                return Sort.UNEQUAL;
            }
            if (first == '<' && second == '=') {
                return Sort.AT_MOST;
            }
            return first == '>' && second == '=' ? Sort.AT_LEAST : Sort.WRONG;
        }

        private static Sort singleSign(int first) {
            switch (first) {
                case '(': return Sort.OPEN;
                case ')': return Sort.CLOSE;
                case ',': return Sort.COMMA;
                case '.': return Sort.DOT;
                case ';': return Sort.SEMICOLON;
                case '+': return Sort.PLUS;
                case '-': return Sort.MINUS;
                case '*': return Sort.STAR;
                case '/': return Sort.SLASH;
                case '%': return Sort.PERCENT;
                case '=': return Sort.EQUAL;
                case '<': return Sort.LESS;
                case '>': return Sort.MORE;
                default: return Sort.WRONG;
            }
        }
    }

    /**
     * Goes through the tokens by the language's rules and writes the plain form on the way. A token that
     * can't stand ends it with an IllegalArgumentException; place() tells where it was then.
     */
    private static final class Grammar {
        private static final int MOST_OPEN = 40;
        /** Above what can be pending: five operators for each that is open and one more, and the open NOT and -. */
        private static final int MOST_PENDING = 300;

        private final Row text = new Row();
        private final Row plain = new Row();
        private final Tokens tokens = new Tokens();
        private int at = 0;
        private Sort token = Sort.FINISH;
        private int open = 0;
        private int mostOpen = 0;
        /** Operators whose last operand has not ended: what they make, and where that begins in the plain form. */
        private final int[] makes = new int[MOST_PENDING];
        private final int[] starts = new int[MOST_PENDING];
        private int pending = 0;

        void start() {
            tokens.scan(text);
            at = 0;
            token = tokens.sort(0);
            open = 0;
            mostOpen = 0;
            pending = 0;
            plain.cut(0);
        }

        int place() {
            return tokens.from(at);
        }

        int most() {
            return mostOpen;
        }

        /** A statement but for its end; answers its kind. */
        int statement() {
            switch (token) {
                case CREATE:
                    copy(Sort.CREATE);
                    return token == Sort.TABLE ? table() : index();
                case DROP:
                    return drop();
                case INSERT:
                    return insert();
                case UPDATE:
                    return update();
                case DELETE:
                    return delete();
                case SELECT:
                    query();
                    return A_QUERY;
                case BEGIN:
                    return beginning();
                case COMMIT:
                    return commit();
                case ROLLBACK:
                    return rollback();
                case SAVEPOINT:
                    copy(Sort.SAVEPOINT);
                    name();
                    return SET_SAVEPOINT;
                case LOCK:
                    return lock();
                case PREPARE:
                    copy(Sort.PREPARE);
                    number();
                    return PREPARE_WORK;
                default:
                    throw new IllegalArgumentException("no statement begins so");
            }
        }

        void finish() {
            skipIf(Sort.SEMICOLON);
            skip(Sort.FINISH);
            plain.dropLastBlank();
        }

        // ---- tokens ----

        /** Goes behind the token. Brackets and CASE are counted here, so that none of any sort is missed. */
        private void step() {
            if (token == Sort.OPEN || token == Sort.CASE) {
                rise();
            } else if (token == Sort.CLOSE || token == Sort.END) {
                open--;
            }
            at++;
            token = tokens.sort(at);
        }

        private void rise() {
            if (open >= MOST_OPEN) {
                throw new IllegalArgumentException("too many are open");
            }
            open++;
            mostOpen = Math.max(mostOpen, open);
        }

        /** A token that must be here and does not stand in the plain form. */
        private void skip(Sort sort) {
            if (token != sort) {
                throw new IllegalArgumentException("another token must stand here");
            }
            step();
        }

        /** A token that may be here and does not stand in the plain form; whether it was here. */
        private boolean skipIf(Sort sort) {
            boolean here = token == sort;
            if (here) {
                step();
            }
            return here;
        }

        /** A token that must be here and stands in the plain form too. */
        private void copy(Sort sort) {
            if (token != sort) {
                throw new IllegalArgumentException("another token must stand here");
            }
            plain.word(sort.text);
            step();
        }

        /** A token that may be here and stands in the plain form too; whether it was here. */
        private boolean copyIf(Sort sort) {
            boolean here = token == sort;
            if (here) {
                plain.word(sort.text);
                step();
            }
            return here;
        }

        private void name() {
            if (token != Sort.NAME) {
                throw new IllegalArgumentException("a name must stand here");
            }
            plain.inSmallLetters(text, tokens.from(at), tokens.to(at));
            step();
        }

        private void number() {
            if (token != Sort.NUMBER) {
                throw new IllegalArgumentException("a number must stand here");
            }
            int to = tokens.to(at);
            int first = tokens.from(at);
            for (int i = first; i < to - 1 && text.at(i) == '0'; i++) {
                first = i + 1;
            }
            plain.copied(text, first, to);
            step();
        }

        private void string() {
            plain.copied(text, tokens.from(at), tokens.to(at));
            step();
        }

        private void namesInBrackets() {
            copy(Sort.OPEN);
            name();
            for (int i = 0; i < FAR && copyIf(Sort.COMMA); i++) {
                name();
            }
            copy(Sort.CLOSE);
        }

        // ---- statements ----

        private int table() {
            boolean more = true;
            copy(Sort.TABLE);
            name();
            copy(Sort.OPEN);
            for (int i = 0; i < FAR && more; i++) {
                if (token == Sort.NAME) {
                    column();
                } else if (copyIf(Sort.CHECK)) {
                    copy(Sort.OPEN);
                    expression();
                    copy(Sort.CLOSE);
                } else {
                    if (!copyIf(Sort.UNIQUE)) {
                        copy(Sort.PRIMARY);
                        copy(Sort.KEY);
                    }
                    namesInBrackets();
                }
                more = copyIf(Sort.COMMA);
            }
            copy(Sort.CLOSE);
            return CREATE_TABLE;
        }

        private void column() {
            boolean more = true;
            name();
            if (!copyIf(Sort.INT)) {
                copy(Sort.TEXT);
            }
            for (int i = 0; i < FAR && more; i++) {
                if (copyIf(Sort.NOT)) {
                    copy(Sort.NULL);
                } else if (copyIf(Sort.PRIMARY)) {
                    copy(Sort.KEY);
                } else if (copyIf(Sort.DEFAULT)) {
                    presetValue();
                } else if (copyIf(Sort.CHECK)) {
                    copy(Sort.OPEN);
                    expression();
                    copy(Sort.CLOSE);
                } else if (copyIf(Sort.REFERENCES)) {
                    reference();
                } else {
                    more = copyIf(Sort.UNIQUE);
                }
            }
        }

        private void presetValue() {
            if (token == Sort.STRING) {
                string();
            } else if (!copyIf(Sort.NULL)) {
                copyIf(Sort.MINUS);
                number();
            }
        }

        private void reference() {
            name();
            if (!copyIf(Sort.ON)) {
                plain.word("ON DELETE RESTRICT");
                return;
            }
            copy(Sort.DELETE);
            if (copyIf(Sort.SET)) {
                copy(Sort.NULL);
            } else if (!copyIf(Sort.CASCADE)) {
                copy(Sort.RESTRICT);
            }
        }

        private int index() {
            copyIf(Sort.UNIQUE);
            copy(Sort.INDEX);
            name();
            copy(Sort.ON);
            name();
            namesInBrackets();
            return CREATE_INDEX;
        }

        private int drop() {
            copy(Sort.DROP);
            boolean index = token == Sort.INDEX;
            copy(index ? Sort.INDEX : Sort.TABLE);
            name();
            return index ? DROP_INDEX : DROP_TABLE;
        }

        private int insert() {
            copy(Sort.INSERT);
            copy(Sort.INTO);
            name();
            if (token == Sort.OPEN) {
                namesInBrackets();
            }
            if (token == Sort.SELECT) {
                query();
                return INSERT_ROWS;
            }
            boolean more = true;
            copy(Sort.VALUES);
            for (int i = 0; i < FAR && more; i++) {
                copy(Sort.OPEN);
                expressions();
                copy(Sort.CLOSE);
                more = copyIf(Sort.COMMA);
            }
            return INSERT_ROWS;
        }

        private int update() {
            boolean more = true;
            copy(Sort.UPDATE);
            name();
            copy(Sort.SET);
            for (int i = 0; i < FAR && more; i++) {
                name();
                copy(Sort.EQUAL);
                expression();
                more = copyIf(Sort.COMMA);
            }
            condition();
            return UPDATE_ROWS;
        }

        private int delete() {
            copy(Sort.DELETE);
            copy(Sort.FROM);
            name();
            condition();
            return DELETE_ROWS;
        }

        private void condition() {
            if (copyIf(Sort.WHERE)) {
                expression();
            }
        }

        private int beginning() {
            copy(Sort.BEGIN);
            if (copyIf(Sort.READ)) {
                if (!copyIf(Sort.COMMITTED)) {
                    copy(Sort.UNCOMMITTED);
                }
            } else if (!copyIf(Sort.SERIALIZABLE)) {
                plain.word("SERIALIZABLE");
            }
            return BEGIN_WORK;
        }

        private int commit() {
            copy(Sort.COMMIT);
            if (!copyIf(Sort.PREPARED)) {
                return COMMIT_WORK;
            }
            number();
            return COMMIT_PREPARED;
        }

        private int rollback() {
            copy(Sort.ROLLBACK);
            if (copyIf(Sort.TO)) {
                name();
                return ROLLBACK_TO;
            }
            if (copyIf(Sort.PREPARED)) {
                number();
                return ROLLBACK_PREPARED;
            }
            return ROLLBACK_WORK;
        }

        private int lock() {
            copy(Sort.LOCK);
            copy(Sort.TABLE);
            name();
            copy(Sort.IN);
            if (!copyIf(Sort.SHARE)) {
                copy(Sort.EXCLUSIVE);
            }
            copy(Sort.MODE);
            return LOCK_TABLE;
        }

        // ---- queries ----

        private void query() {
            copy(Sort.SELECT);
            copyIf(Sort.DISTINCT);
            if (!copyIf(Sort.STAR)) {
                items();
            }
            if (copyIf(Sort.FROM)) {
                sources();
            }
            condition();
            if (copyIf(Sort.GROUP)) {
                copy(Sort.BY);
                expressions();
            }
            if (copyIf(Sort.HAVING)) {
                expression();
            }
            if (copyIf(Sort.ORDER)) {
                copy(Sort.BY);
                orders();
            }
            if (copyIf(Sort.LIMIT)) {
                number();
                if (copyIf(Sort.OFFSET)) {
                    number();
                }
            }
        }

        private void items() {
            boolean more = true;
            for (int i = 0; i < FAR && more; i++) {
                if (token == Sort.NAME && tokens.sort(at + 1) == Sort.DOT && tokens.sort(at + 2) == Sort.STAR) {
                    name();
                    copy(Sort.DOT);
                    copy(Sort.STAR);
                } else {
                    expression();
                    if (copyIf(Sort.AS)) {
                        name();
                    }
                }
                more = copyIf(Sort.COMMA);
            }
        }

        private void sources() {
            boolean more = true;
            boolean joinedOn = false;
            for (int i = 0; i < FAR && more; i++) {
                name();
                if (copyIf(Sort.AS)) {
                    name();
                }
                if (joinedOn) {
                    copy(Sort.ON);
                    expression();
                }
                joinedOn = token != Sort.COMMA && token != Sort.CROSS;
                if (skipIf(Sort.COMMA)) {
                    plain.word("CROSS JOIN");
                } else if (copyIf(Sort.LEFT)) {
                    skipIf(Sort.OUTER);
                    copy(Sort.JOIN);
                } else if (copyIf(Sort.CROSS) || skipIf(Sort.INNER) || token == Sort.JOIN) {
                    copy(Sort.JOIN);
                } else {
                    more = false;
                }
            }
        }

        private void orders() {
            boolean more = true;
            for (int i = 0; i < FAR && more; i++) {
                expression();
                if (!skipIf(Sort.ASC)) {
                    copyIf(Sort.DESC);
                }
                more = copyIf(Sort.COMMA);
            }
        }

        // ---- expressions: at most six calls stand open for each ( of the text, so 40 of them stay under 300 ----

        private void expressions() {
            expression();
            for (int i = 0; i < FAR && copyIf(Sort.COMMA); i++) {
                expression();
            }
        }

        /** e, a and b in one loop: with a method for each too many calls would stand open at once. */
        private int expression() {
            int floor = pending;
            int made = BY_NOTHING;
            boolean more = true;
            for (int i = 0; i < FAR && more; i++) {
                prefixes(Sort.NOT, BY_NOT);
                int start = plain.size();
                made = comparison();
                int next = token.makes <= BY_AND ? token.makes : BY_NOTHING;
                made = combine(floor, start, made, next);
                more = next != BY_NOTHING && copyIf(token);
            }
            return made;
        }

        /** c */
        private int comparison() {
            int start = plain.size();
            int made = sum();
            boolean compares = token.makes == BY_COMPARING;
            boolean negatable = token == Sort.NOT || token == Sort.IN || token == Sort.BETWEEN || token == Sort.LIKE;
            if (!compares && !negatable && token != Sort.IS) {
                return made;
            }
            plain.openAt(start);
            if (compares) {
                copy(token);
                sum();
            } else if (copyIf(Sort.IS)) {
                copyIf(Sort.NOT);
                copy(Sort.NULL);
            } else {
                copyIf(Sort.NOT);
                if (copyIf(Sort.IN)) {
                    members();
                } else if (copyIf(Sort.BETWEEN)) {
                    sum();
                    copy(Sort.AND);
                    sum();
                } else {
                    copy(Sort.LIKE);
                    sum();
                }
            }
            plain.word(")");
            return BY_COMPARING;
        }

        private void members() {
            copy(Sort.OPEN);
            if (token == Sort.SELECT) {
                query();
            } else {
                expressions();
            }
            copy(Sort.CLOSE);
        }

        /** s, m, t and u in one loop, for the same reason as e, a and b. */
        private int sum() {
            int floor = pending;
            int made = BY_NOTHING;
            boolean more = true;
            for (int i = 0; i < FAR && more; i++) {
                prefixes(Sort.MINUS, BY_MINUS);
                int start = plain.size();
                made = primary();
                int next = token.makes >= BY_BARS ? token.makes : BY_NOTHING;
                made = combine(floor, start, made, next);
                more = next != BY_NOTHING && copyIf(token);
            }
            return made;
        }

        private void prefixes(Sort prefix, int makes) {
            for (int i = 0; i <= MOST_OPEN && token == prefix; i++) {
                rise();
                push(plain.size(), makes);
                plain.word("(");
                plain.word(prefix.text);
                step();
            }
        }

        /**
         * An operand has ended, and next is what the operator behind it makes, or nothing. What is pending
         * and binds no looser ends too; what next makes begins, in the brackets of the left operand when that
         * is made alike. Answers what the operand that has ended is made by.
         */
        private int combine(int floor, int operandStart, int operandMade, int next) {
            int start = operandStart;
            int made = operandMade;
            for (int i = 0; i < MOST_PENDING && isPendingAbove(floor, next); i++) {
                pending--;
                start = starts[pending];
                made = makes[pending];
                plain.word(")");
                if (made == BY_NOT || made == BY_MINUS) {
                    open--;
                }
            }
            if (next != BY_NOTHING) {
                push(start, next);
                if (made == next) {
                    plain.reopen();
                } else {
                    plain.openAt(start);
                }
            }
            return made;
        }

        private boolean isPendingAbove(int floor, int next) {
            return pending > floor && pending > 0 && pending <= makes.length && pending <= starts.length
                && makes[pending - 1] >= next;
        }

        private void push(int start, int made) {
            if (pending < 0 || pending >= makes.length || pending >= starts.length) {
                throw new IllegalArgumentException("too many are pending");
            }
            starts[pending] = start;
            makes[pending] = made;
            pending++;
        }

        /** p */
        private int primary() {
            int made = BY_NOTHING;
            switch (token) {
                case NUMBER:
                    number();
                    break;
                case STRING:
                    string();
                    break;
                case NULL:
                    copy(Sort.NULL);
                    break;
                case NAME:
                    name();
                    if (copyIf(Sort.DOT)) {
                        name();
                    }
                    break;
                case OPEN:
                    skip(Sort.OPEN);
                    made = expression();
                    skip(Sort.CLOSE);
                    break;
                case EXISTS:
                    copy(Sort.EXISTS);
                    copy(Sort.OPEN);
                    query();
                    copy(Sort.CLOSE);
                    break;
                case CASE:
                    cases();
                    break;
                default:
                    function();
            }
            return made;
        }

        private void cases() {
            boolean more = true;
            copy(Sort.CASE);
            for (int i = 0; i < FAR && more; i++) {
                copy(Sort.WHEN);
                expression();
                copy(Sort.THEN);
                expression();
                more = token == Sort.WHEN;
            }
            if (copyIf(Sort.ELSE)) {
                expression();
            }
            copy(Sort.END);
        }

        private void function() {
            switch (token) {
                case ABS:
                case LENGTH:
                case UPPER:
                case LOWER:
                    arguments(1, 1);
                    break;
                case SUBSTR:
                    arguments(2, 3);
                    break;
                case COALESCE:
                    arguments(1, FAR);
                    break;
                case NULLIF:
                    arguments(2, 2);
                    break;
                case CAST:
                    cast();
                    break;
                case COUNT:
                case SUM:
                case MIN:
                case MAX:
                case AVG:
                    aggregate();
                    break;
                default:
                    throw new IllegalArgumentException("no expression begins so");
            }
        }

        private void arguments(int fewest, int most) {
            boolean more = true;
            copy(token);
            copy(Sort.OPEN);
            for (int i = 1; i <= most && more; i++) {
                expression();
                more = i < most && (i < fewest || token == Sort.COMMA);
                if (more) {
                    copy(Sort.COMMA);
                }
            }
            copy(Sort.CLOSE);
        }

        private void cast() {
            copy(Sort.CAST);
            copy(Sort.OPEN);
            expression();
            copy(Sort.AS);
            if (!copyIf(Sort.INT)) {
                copy(Sort.TEXT);
            }
            copy(Sort.CLOSE);
        }

        private void aggregate() {
            boolean counts = token == Sort.COUNT;
            copy(token);
            copy(Sort.OPEN);
            if (!counts || !copyIf(Sort.STAR)) {
                copyIf(Sort.DISTINCT);
                expression();
            }
            copy(Sort.CLOSE);
        }
    }
}
