import java.util.Arrays;

/**
 * Tables that run over rows that are told one by one. The words in capitals are those of the document.
 *
 * All arrays are made in constructors and used again, so that no later call makes any object.
 */
public final class TableStreams {
    public static final int NONE = -1;

    private static final int UNSAID = -2_000_000_000;

    private static final int BAD_NUMBER = -1;
    private static final int TWICE = -4;
    private static final int NO_ROOM = -5;
    private static final int NO_TEXT = -6;

    private static final int SOURCES = 3;
    private static final int KEYS = 32;
    private static final int HOSTS = 8;
    private static final int LETTERS = 26;
    private static final int GREATEST_TIME = 10_000;
    private static final int GREATEST_TOLD = 1000;
    private static final int GREATEST_NUMBER = 1000;
    private static final int GREATEST_VALUE = 1_000_000_000;
    private static final int MOST_TOLD = 150;
    private static final int MOST_BYTES = 300;
    private static final int MOST_TABLES = 12;
    private static final int MOST_ROWS = 400;
    private static final int MOST_CHANGES = 4000;

    private static final int KEY = 0;
    private static final int VALUE = 1;
    private static final int TIME = 2;
    private static final int NEWNESS = 3;

    private static final int SOURCE = 0;
    private static final int WHERE = 1;
    private static final int PLUS = 2;
    private static final int TIMES = 3;
    private static final int REKEY = 4;
    private static final int WINDOW = 5;
    private static final int EVER = 6;
    private static final int SUM = 7;
    private static final int COUNT = 8;
    private static final int MAX = 9;
    private static final int LAST = 10;
    private static final int JOIN = 11;
    private static final int LESS = 12;
    private static final int KINDS = 13;

    private final Log log;
    private final Tape tape;
    private final Parser parser;
    private final Tables running;
    private final Changes waiting;
    private final Changes told;
    private final Hosts hosts;
    private final Progress now;
    private final Progress kept;
    private int lateness;
    private int faultPlace;
    private int refusal;

    public TableStreams() {
        log = new Log();
        tape = new Tape();
        parser = new Parser();
        running = new Tables();
        waiting = new Changes();
        told = new Changes();
        hosts = new Hosts();
        now = new Progress();
        kept = new Progress();
        lateness = NONE;
        faultPlace = NONE;
        refusal = 0;
    }

    public int tell(int source, int key, int value, int time) {
        if (!isWithin(source, 0, SOURCES - 1) || !isWithin(key, 0, KEYS - 1)
                || !isWithin(value, -GREATEST_TOLD, GREATEST_TOLD) || !isWithin(time, 0, GREATEST_TIME)) {
            return refuse(BAD_NUMBER);
        }
        if (!log.add(source, Row.pack(key, time, value))) {
            return refuse(NO_ROOM);
        }
        return grant(log.size());
    }

    public int feed(int a, int b, int c, int d, int e) {
        if (!tape.hasRoomFor(20)) {
            return NONE;
        }
        tape.addNumber(a);
        tape.addNumber(b);
        tape.addNumber(c);
        tape.addNumber(d);
        tape.addNumber(e);
        return tape.length();
    }

    public int end(int n) {
        if (!isWithin(n, 0, tape.length())) {
            return NONE;
        }
        tape.cut(n);
        return n;
    }

    public int tables() {
        faultPlace = parser.parse(tape, running.draft());
        tape.cut(0);
        if (faultPlace != NONE) {
            return refuse(NO_TEXT);
        }
        running.takeDraft();
        beginAnew();
        return grant(running.size());
    }

    public int fault() {
        return faultPlace;
    }

    public int late(int lateness) {
        if (!isWithin(lateness, NONE, GREATEST_TIME)) {
            // the document wants another answer here than the status
            refusal = BAD_NUMBER;
            return NO_ROOM;
        }
        int before = this.lateness;
        this.lateness = lateness;
        beginAnew();
        return grant(before);
    }

    public int read(int n) {
        if (!isWithin(n, 0, MOST_TOLD)) {
            return refuse(BAD_NUMBER);
        }
        if (running.size() == 0) {
            return refuse(NO_TEXT);
        }
        int most = Math.min(n, log.size() - now.rowsRead());
        for (int done = 0; done < most; done++) {
            if (!readNext()) {
                refusal = NO_ROOM;
                return done;
            }
        }
        return grant(most);
    }

    public int mark() {
        if (running.size() == 0) {
            return refuse(NO_TEXT);
        }
        if (!told.addAll(waiting)) {
            return refuse(NO_ROOM);
        }
        waiting.clear();
        kept.copy(now);
        running.keep();
        return grant(told.size());
    }

    public int fall() {
        if (running.size() == 0) {
            return refuse(NO_TEXT);
        }
        waiting.clear();
        now.copy(kept);
        running.restore();
        return grant(now.rowsRead());
    }

    public int rows(int table) {
        return running.has(table) ? running.rowsOf(table).size() : NONE;
    }

    public int row(int table, int i, int what) {
        if (!running.has(table) || !isWithin(i, 0, running.rowsOf(table).size() - 1)) {
            return UNSAID;
        }
        return Row.partOf(running.rowsOf(table).at(i), what);
    }

    public int out(int i, int what) {
        if (i == NONE && what == 0) {
            return told.size();
        }
        return told.partOf(i, what);
    }

    public int host(int h, boolean is) {
        if (!isWithin(h, 0, HOSTS - 1)) {
            return refuse(BAD_NUMBER);
        }
        if (hosts.has(h) == is) {
            return refuse(TWICE);
        }
        if (!is && hosts.size() == 1) {
            return refuse(NO_ROOM);
        }
        return grant(running.countOfKeys(hosts.change(h, is)));
    }

    public int owner(int key) {
        return hosts.ownerOf(key);
    }

    public int owns(int h) {
        return hosts.has(h) ? running.countOfKeys(hosts.keysOf(h)) : NONE;
    }

    public int count(int what) {
        switch (what) {
            case 0:
                return log.size();
            case 1:
                return now.rowsRead();
            case 2:
                return now.rowsLate();
            case 3:
                return running.size();
            case 4:
                return hosts.size();
            case 5:
                return waiting.size();
            case 6:
                return tape.length();
            case 7:
                return now.greatestTime();
            case 8:
                return kept.rowsRead();
            default:
                return NONE;
        }
    }

    public int status() {
        return refusal;
    }

    private int refuse(int code) {
        refusal = code;
        return code;
    }

    private int grant(int answer) {
        refusal = 0;
        return answer;
    }

    private void beginAnew() {
        now.clear();
        kept.clear();
        waiting.clear();
        told.clear();
        running.clear();
    }

    /** False if the next ROW of THE LOG is FULL; then nothing is changed. */
    private boolean readNext() {
        int place = now.rowsRead();
        long row = log.rowAt(place);
        int time = Row.timeOf(row);
        boolean isLate = lateness != NONE && time < now.greatestTime() - lateness;
        if (!isLate) {
            if (!running.offer(log.sourceAt(place), row)
                    || !waiting.addDifference(running.answer(), running.answerOffered())) {
                return false;
            }
            running.acceptOffer();
        }
        now.step(time, isLate);
        return true;
    }

    private static boolean isWithin(int number, int least, int most) {
        return number >= least && number <= most;
    }

    /** A ROW held in one number, made so that a lower number is a ROW that goes ahead. */
    private static final class Row {
        private static final int VALUE_BITS = 31;
        private static final int TIME_BITS = 14;
        private static final long VALUE_MASK = (1L << VALUE_BITS) - 1;
        private static final long TIME_MASK = (1L << TIME_BITS) - 1;

        static long pack(int key, int time, int value) {
            long group = ((long) key << TIME_BITS) | time;
            return (group << VALUE_BITS) | (value + GREATEST_VALUE);
        }

        static int keyOf(long row) {
            return (int) (row >>> (VALUE_BITS + TIME_BITS)) & (KEYS - 1);
        }

        static int timeOf(long row) {
            return (int) ((row >>> VALUE_BITS) & TIME_MASK);
        }

        static int valueOf(long row) {
            return (int) (row & VALUE_MASK) - GREATEST_VALUE;
        }

        /** KEY and TIME together: alike for ROWS that sum, count and max put together. */
        static long groupOf(long row) {
            return row >>> VALUE_BITS;
        }

        static int partOf(long row, int what) {
            switch (what) {
                case KEY:
                    return keyOf(row);
                case VALUE:
                    return valueOf(row);
                case TIME:
                    return timeOf(row);
                default:
                    return UNSAID;
            }
        }
    }

    /** What a TABLE has, in order once it is sorted. */
    private static final class Rows {
        private final long[] cells;
        private int size;
        private boolean isFull;

        Rows() {
            cells = new long[MOST_ROWS];
        }

        void clear() {
            size = 0;
            isFull = false;
        }

        int size() {
            return size;
        }

        /** Whether something could not be added: a ROW too many, or a VALUE beyond. */
        boolean isFull() {
            return isFull;
        }

        long at(int i) {
            return isWithin(i, 0, size - 1) ? cells[i] : 0;
        }

        void add(long row) {
            if (size >= cells.length) {
                isFull = true;
                return;
            }
            cells[size] = row;
            size++;
        }

        /** The VALUE is long, since it may be beyond what an int can hold. */
        void add(int key, int time, long value) {
            if (value < -GREATEST_VALUE || value > GREATEST_VALUE) {
                isFull = true;
                return;
            }
            add(Row.pack(key, time, (int) value));
        }

        void copy(Rows other) {
            System.arraycopy(other.cells, 0, cells, 0, other.size);
            size = other.size;
            isFull = other.isFull;
        }

        void sort(long[] scratch) {
            for (int width = 1; width < size; width *= 2) {
                for (int from = 0; from + width < size; from += 2 * width) {
                    merge(from, from + width, Math.min(from + 2 * width, size), scratch);
                }
            }
        }

        private void merge(int from, int middle, int to, long[] scratch) {
            // most TABLES come in order from their own TABLES, and cost nothing more
            if (cells[middle - 1] <= cells[middle]) {
                return;
            }
            int saved = middle - from;
            System.arraycopy(cells, from, scratch, 0, saved);
            int left = 0;
            int right = middle;
            for (int at = from; at < to && left < saved; at++) {
                if (right < to && cells[right] < scratch[left]) {
                    cells[at] = cells[right];
                    right++;
                } else {
                    cells[at] = scratch[left];
                    left++;
                }
            }
        }

        /** The KEYS that there are, a bit each. */
        int keys() {
            int keys = 0;
            for (int i = 0; i < size; i++) {
                keys |= 1 << Row.keyOf(cells[i]);
            }
            return keys;
        }

        int countOfKeys(int keys) {
            int found = 0;
            for (int i = 0; i < size; i++) {
                found += (keys >>> Row.keyOf(cells[i])) & 1;
            }
            return found;
        }
    }

    /** How one TABLE is made of others. */
    private static final class Making {
        int kind;
        int left;
        int right;
        int column;
        char relation;
        int number;

        void clear() {
            kind = SOURCE;
            left = NONE;
            right = NONE;
            column = KEY;
            relation = '=';
            number = 0;
        }

        void fill(Rows a, Rows b, Rows to) {
            to.clear();
            switch (kind) {
                case SUM:
                case COUNT:
                case MAX:
                    fillByGroup(a, to);
                    break;
                case LAST:
                    fillByKey(a, to);
                    break;
                case JOIN:
                    fillByPairs(a, b, to);
                    break;
                case LESS:
                    fillWithout(a, b.keys(), to);
                    break;
                default:
                    for (int i = 0; i < a.size(); i++) {
                        addOne(a.at(i), to);
                    }
                    break;
            }
        }

        private void addOne(long row, Rows to) {
            int key = Row.keyOf(row);
            int time = Row.timeOf(row);
            long value = Row.valueOf(row);
            switch (kind) {
                case WHERE:
                    if (holdsOf(Row.partOf(row, column))) {
                        to.add(row);
                    }
                    break;
                case PLUS:
                    to.add(key, time, value + number);
                    break;
                case TIMES:
                    to.add(key, time, value * number);
                    break;
                case REKEY:
                    to.add((key + number) % KEYS, time, value);
                    break;
                case WINDOW:
                    to.add(key, number > 0 ? time - time % number : time, value);
                    break;
                case EVER:
                    to.add(key, 0, value);
                    break;
                default:
                    break;
            }
        }

        private boolean holdsOf(int part) {
            if (relation == '<') {
                return part < number;
            }
            return relation == '>' ? part > number : part == number;
        }

        private void fillByGroup(Rows a, Rows to) {
            long sum = 0;
            int many = 0;
            for (int i = 0; i < a.size(); i++) {
                long row = a.at(i);
                int value = Row.valueOf(row);
                sum += value;
                many++;
                if (i + 1 < a.size() && Row.groupOf(a.at(i + 1)) == Row.groupOf(row)) {
                    continue;
                }
                // the ROWS are in order, so the last one of a group has its greatest VALUE
                long gathered = kind == SUM ? sum : kind == COUNT ? many : value;
                to.add(Row.keyOf(row), Row.timeOf(row), gathered);
                sum = 0;
                many = 0;
            }
        }

        /** The ROWS are in order, so the last one of a KEY is the one that is asked for. */
        private void fillByKey(Rows a, Rows to) {
            for (int i = 0; i < a.size(); i++) {
                long row = a.at(i);
                if (i + 1 == a.size() || Row.keyOf(a.at(i + 1)) != Row.keyOf(row)) {
                    to.add(row);
                }
            }
        }

        private void fillByPairs(Rows a, Rows b, Rows to) {
            int from = 0;
            for (int i = 0; i < a.size() && !to.isFull(); i++) {
                long row = a.at(i);
                int key = Row.keyOf(row);
                while (from < b.size() && Row.keyOf(b.at(from)) < key) {
                    from++;
                }
                for (int j = from; j < b.size() && Row.keyOf(b.at(j)) == key && !to.isFull(); j++) {
                    long other = b.at(j);
                    long value = (long) Row.valueOf(row) + Row.valueOf(other);
                    to.add(key, Math.max(Row.timeOf(row), Row.timeOf(other)), value);
                }
            }
        }

        private void fillWithout(Rows a, int keys, Rows to) {
            for (int i = 0; i < a.size(); i++) {
                long row = a.at(i);
                if (((keys >>> Row.keyOf(row)) & 1) == 0) {
                    to.add(row);
                }
            }
        }
    }

    /** The MAKINGS of a TEXT's TABLES, as they come. */
    private static final class Plan {
        private final Making[] makings;
        private int size;

        Plan() {
            makings = new Making[MOST_TABLES];
            for (int t = 0; t < MOST_TABLES; t++) {
                makings[t] = new Making();
            }
        }

        void clear() {
            size = 0;
        }

        int size() {
            return size;
        }

        /** Also one that is not added yet, for a parser to fill. */
        Making at(int t) {
            return makings[isWithin(t, 0, MOST_TABLES - 1) ? t : 0];
        }

        void add() {
            if (size < MOST_TABLES) {
                size++;
            }
        }
    }

    /** The TAPE, and the TOKEN of it at which a parser stands. */
    private static final class Tape {
        private final char[] bytes;
        private int length;
        private int start;
        private int stop;

        Tape() {
            bytes = new char[MOST_BYTES];
        }

        int length() {
            return length;
        }

        boolean hasRoomFor(int more) {
            return length + more <= MOST_BYTES;
        }

        void addNumber(int number) {
            for (int shift = 24; shift >= 0 && length < MOST_BYTES; shift -= 8) {
                bytes[length] = (char) ((number >>> shift) & 255);
                length++;
            }
        }

        void cut(int n) {
            length = Math.max(0, Math.min(n, length));
        }

        void toFirstToken() {
            stop = 0;
            toNextToken();
        }

        void toNextToken() {
            start = stop;
            while (start < length && bytes[start] == ' ') {
                start++;
            }
            stop = Math.min(start + 1, length);
            if (isLetter(start)) {
                while (stop < length && isLetter(stop)) {
                    stop++;
                }
            } else if (isDigit(start)) {
                while (stop < length && isDigit(stop)) {
                    stop++;
                }
            }
        }

        private boolean isLetter(int i) {
            return i < length && bytes[i] >= 'a' && bytes[i] <= 'z';
        }

        private boolean isDigit(int i) {
            return i < length && bytes[i] >= '0' && bytes[i] <= '9';
        }

        boolean isAtEnd() {
            return start >= length;
        }

        /** Where the TOKEN begins; the TEXT's length at its end. */
        int place() {
            return start;
        }

        boolean isToken(char sign) {
            return stop - start == 1 && bytes[start] == sign;
        }

        boolean isToken(String word) {
            if (stop - start != word.length()) {
                return false;
            }
            for (int i = 0; i < word.length(); i++) {
                if (bytes[start + i] != word.charAt(i)) {
                    return false;
                }
            }
            return true;
        }

        /** Which letter the TOKEN is, from 0 for a; NONE if it is not one alone. */
        int letter() {
            return stop - start == 1 && isLetter(start) ? bytes[start] - 'a' : NONE;
        }

        /** The number of a TOKEN of digits, or some number above all that are taken; NONE of other TOKENS. */
        int digits() {
            if (!isDigit(start)) {
                return NONE;
            }
            int number = 0;
            for (int i = start; i < stop; i++) {
                // held low, so that a long row of digits does not wrap around
                number = Math.min(number * 10 + (bytes[i] - '0'), GREATEST_NUMBER + 1);
            }
            return number;
        }
    }

    /** Makes a plan of a TEXT. A method that takes goes past its TOKENS, or stays at the one that can't go on. */
    private static final class Parser {
        private final int[] tableOfLetter;

        Parser() {
            tableOfLetter = new int[LETTERS];
        }

        /** The FAULT's place, or NONE. */
        int parse(Tape tape, Plan plan) {
            plan.clear();
            Arrays.fill(tableOfLetter, NONE);
            tape.toFirstToken();
            for (int t = 0; t < MOST_TABLES; t++) {
                Making making = plan.at(t);
                making.clear();
                int letter = takeNewName(tape);
                if (letter == NONE || !takeSign(tape, '=') || !takeKind(tape, making) || !takeParts(tape, making)) {
                    return tape.place();
                }
                // only now, since a TABLE can't be made of itself
                tableOfLetter[letter] = t;
                plan.add();
                if (tape.isAtEnd()) {
                    return NONE;
                }
                if (!takeSign(tape, ';')) {
                    return tape.place();
                }
            }
            return tape.place();
        }

        private int takeNewName(Tape tape) {
            int letter = tape.letter();
            if (letter == NONE || tableOfLetter[letter] != NONE) {
                return NONE;
            }
            tape.toNextToken();
            return letter;
        }

        private boolean takeKind(Tape tape, Making making) {
            for (int kind = 0; kind < KINDS; kind++) {
                if (tape.isToken(wordOf(kind))) {
                    making.kind = kind;
                    tape.toNextToken();
                    return true;
                }
            }
            return false;
        }

        private static String wordOf(int kind) {
            switch (kind) {
                case SOURCE:
                    return "source";
                case WHERE:
                    return "where";
                case PLUS:
                    return "plus";
                case TIMES:
                    return "times";
                case REKEY:
                    return "rekey";
                case WINDOW:
                    return "window";
                case EVER:
                    return "ever";
                case SUM:
                    return "sum";
                case COUNT:
                    return "count";
                case MAX:
                    return "max";
                case LAST:
                    return "last";
                case JOIN:
                    return "join";
                default:
                    return "less";
            }
        }

        private boolean takeParts(Tape tape, Making making) {
            if (making.kind == SOURCE) {
                return takeDigits(tape, making, 0, SOURCES - 1);
            }
            if (!takeLeft(tape, making)) {
                return false;
            }
            switch (making.kind) {
                case WHERE:
                    return takeColumn(tape, making) && takeRelation(tape, making) && takeNumber(tape, making);
                case PLUS:
                case TIMES:
                    return takeNumber(tape, making);
                case REKEY:
                    return takeDigits(tape, making, 0, KEYS - 1);
                case WINDOW:
                    return takeDigits(tape, making, 1, GREATEST_NUMBER);
                case JOIN:
                case LESS:
                    return takeRight(tape, making);
                default:
                    return true;
            }
        }

        private boolean takeLeft(Tape tape, Making making) {
            making.left = takeName(tape);
            return making.left != NONE;
        }

        private boolean takeRight(Tape tape, Making making) {
            making.right = takeName(tape);
            return making.right != NONE;
        }

        private int takeName(Tape tape) {
            int letter = tape.letter();
            int table = letter == NONE ? NONE : tableOfLetter[letter];
            if (table != NONE) {
                tape.toNextToken();
            }
            return table;
        }

        private boolean takeColumn(Tape tape, Making making) {
            if (tape.isToken("key")) {
                making.column = KEY;
            } else if (tape.isToken("value")) {
                making.column = VALUE;
            } else if (tape.isToken("time")) {
                making.column = TIME;
            } else {
                return false;
            }
            tape.toNextToken();
            return true;
        }

        private boolean takeRelation(Tape tape, Making making) {
            if (takeSign(tape, '<')) {
                making.relation = '<';
            } else if (takeSign(tape, '>')) {
                making.relation = '>';
            } else {
                making.relation = '=';
                return takeSign(tape, '=');
            }
            return true;
        }

        private boolean takeNumber(Tape tape, Making making) {
            boolean isBelowZero = takeSign(tape, '-');
            if (!takeDigits(tape, making, 0, GREATEST_NUMBER)) {
                return false;
            }
            if (isBelowZero) {
                making.number = -making.number;
            }
            return true;
        }

        private boolean takeDigits(Tape tape, Making making, int least, int most) {
            int number = tape.digits();
            if (number == NONE || !isWithin(number, least, most)) {
                return false;
            }
            making.number = number;
            tape.toNextToken();
            return true;
        }

        private boolean takeSign(Tape tape, char sign) {
            if (!tape.isToken(sign)) {
                return false;
            }
            tape.toNextToken();
            return true;
        }
    }

    /** What all TABLES have: now, as offered by a ROW that may turn out to be FULL, and as of the latest MARK. */
    private static final class Tables {
        private final Rows[] current;
        private final Rows[] offered;
        private final Rows[] marked;
        private final boolean[] isTouched;
        private final Rows nothing;
        private final long[] scratch;
        private Plan plan;
        private Plan draft;

        Tables() {
            current = new Rows[MOST_TABLES];
            offered = new Rows[MOST_TABLES];
            marked = new Rows[MOST_TABLES];
            for (int t = 0; t < MOST_TABLES; t++) {
                current[t] = new Rows();
                offered[t] = new Rows();
                marked[t] = new Rows();
            }
            isTouched = new boolean[MOST_TABLES];
            nothing = new Rows();
            scratch = new long[MOST_ROWS];
            plan = new Plan();
            draft = new Plan();
        }

        /** A plan that may be filled and given up, while the TABLES stay. */
        Plan draft() {
            return draft;
        }

        void takeDraft() {
            Plan old = plan;
            plan = draft;
            draft = old;
        }

        int size() {
            return plan.size();
        }

        boolean has(int table) {
            return isWithin(table, 0, plan.size() - 1);
        }

        Rows rowsOf(int table) {
            return has(table) ? current[table] : nothing;
        }

        Rows answer() {
            return rowsOf(plan.size() - 1);
        }

        Rows answerOffered() {
            return offeredOf(plan.size() - 1);
        }

        private Rows offeredOf(int table) {
            return touches(table) ? offered[table] : rowsOf(table);
        }

        private boolean touches(int table) {
            return has(table) && isTouched[table];
        }

        void clear() {
            for (int t = 0; t < MOST_TABLES; t++) {
                current[t].clear();
                marked[t].clear();
            }
        }

        void keep() {
            for (int t = 0; t < plan.size(); t++) {
                marked[t].copy(current[t]);
            }
        }

        void restore() {
            for (int t = 0; t < plan.size(); t++) {
                current[t].copy(marked[t]);
            }
        }

        /** False if some TABLE would be FULL. The TABLES change only as the offer is accepted. */
        boolean offer(int source, long row) {
            for (int t = 0; t < plan.size(); t++) {
                Making making = plan.at(t);
                boolean isOfSource = making.kind == SOURCE;
                isTouched[t] = isOfSource ? making.number == source : touches(making.left) || touches(making.right);
                if (!isTouched[t]) {
                    continue;
                }
                if (isOfSource) {
                    offered[t].copy(current[t]);
                    offered[t].add(row);
                } else {
                    making.fill(offeredOf(making.left), offeredOf(making.right), offered[t]);
                }
                if (offered[t].isFull()) {
                    return false;
                }
                offered[t].sort(scratch);
            }
            return true;
        }

        void acceptOffer() {
            for (int t = 0; t < plan.size(); t++) {
                if (isTouched[t]) {
                    Rows old = current[t];
                    current[t] = offered[t];
                    offered[t] = old;
                }
            }
        }

        /** How many ROWS of all TABLES have one of these KEYS, a bit each. */
        int countOfKeys(int keys) {
            int found = 0;
            for (int t = 0; t < plan.size(); t++) {
                found += current[t].countOfKeys(keys);
            }
            return found;
        }
    }

    /** THE LOG. */
    private static final class Log {
        private final int[] sources;
        private final long[] told;
        private int size;

        Log() {
            sources = new int[MOST_TOLD];
            told = new long[MOST_TOLD];
        }

        int size() {
            return size;
        }

        boolean add(int source, long row) {
            if (size >= MOST_TOLD) {
                return false;
            }
            sources[size] = source;
            told[size] = row;
            size++;
            return true;
        }

        int sourceAt(int i) {
            return isWithin(i, 0, size - 1) ? sources[i] : NONE;
        }

        long rowAt(int i) {
            return isWithin(i, 0, size - 1) ? told[i] : 0;
        }
    }

    /** How far THE LOG is READ. */
    private static final class Progress {
        private int rowsRead;
        private int rowsLate;
        private int greatestTime;

        Progress() {
            greatestTime = NONE;
        }

        void clear() {
            rowsRead = 0;
            rowsLate = 0;
            greatestTime = NONE;
        }

        void copy(Progress other) {
            rowsRead = other.rowsRead;
            rowsLate = other.rowsLate;
            greatestTime = other.greatestTime;
        }

        void step(int time, boolean isLate) {
            rowsRead++;
            rowsLate += isLate ? 1 : 0;
            greatestTime = Math.max(greatestTime, time);
        }

        int rowsRead() {
            return rowsRead;
        }

        int rowsLate() {
            return rowsLate;
        }

        int greatestTime() {
            return greatestTime;
        }
    }

    /** CHANGES behind one another, each in one number: the ROW, and a lowest bit that is 1 for a new one. */
    private static final class Changes {
        private final long[] cells;
        private int size;

        Changes() {
            cells = new long[MOST_CHANGES];
        }

        void clear() {
            size = 0;
        }

        int size() {
            return size;
        }

        int partOf(int i, int what) {
            if (!isWithin(i, 0, size - 1)) {
                return UNSAID;
            }
            if (what == NEWNESS) {
                return (cells[i] & 1) == 1 ? 1 : -1;
            }
            return Row.partOf(cells[i] >>> 1, what);
        }

        boolean addAll(Changes other) {
            if (size + other.size > MOST_CHANGES) {
                return false;
            }
            System.arraycopy(other.cells, 0, cells, size, other.size);
            size += other.size;
            return true;
        }

        /** False if there is no room for all of them; then none is added. */
        boolean addDifference(Rows before, Rows after) {
            int old = size;
            if (addMissing(before, after, 0) && addMissing(after, before, 1)) {
                return true;
            }
            size = old;
            return false;
        }

        /** Adds the ROWS of one TABLE that another one has not, or as often as it has them less often. */
        private boolean addMissing(Rows of, Rows in, int newness) {
            int met = 0;
            for (int i = 0; i < of.size(); i++) {
                long row = of.at(i);
                while (met < in.size() && in.at(met) < row) {
                    met++;
                }
                if (met < in.size() && in.at(met) == row) {
                    met++;
                    continue;
                }
                if (size >= MOST_CHANGES) {
                    return false;
                }
                cells[size] = (row << 1) | newness;
                size++;
            }
            return true;
        }
    }

    /** The HOSTS that are there, and which KEYS they own. */
    private static final class Hosts {
        private static final int OWNER_DIVISOR = 97;

        private final boolean[] isThere;
        private final int[] owners;
        private int size;

        Hosts() {
            isThere = new boolean[HOSTS];
            isThere[0] = true;
            size = 1;
            // HOST 0 owns every KEY: the owners are right as they are made
            owners = new int[KEYS];
        }

        int size() {
            return size;
        }

        boolean has(int h) {
            return isWithin(h, 0, HOSTS - 1) && isThere[h];
        }

        int ownerOf(int key) {
            return isWithin(key, 0, KEYS - 1) ? owners[key] : NONE;
        }

        int keysOf(int h) {
            int keys = 0;
            for (int key = 0; key < KEYS; key++) {
                if (owners[key] == h) {
                    keys |= 1 << key;
                }
            }
            return keys;
        }

        /** The KEYS that have another OWNER by it, a bit each. */
        int change(int h, boolean is) {
            if (!isWithin(h, 0, HOSTS - 1) || isThere[h] == is) {
                return 0;
            }
            isThere[h] = is;
            size += is ? 1 : -1;
            int moved = 0;
            for (int key = 0; key < KEYS; key++) {
                int next = choose(key);
                if (next != owners[key]) {
                    owners[key] = next;
                    moved |= 1 << key;
                }
            }
            return moved;
        }

        private int choose(int key) {
            int chosen = NONE;
            int greatest = NONE;
            for (int h = 0; h < HOSTS; h++) {
                int weight = (key + 1) * (2 * h + 3) % OWNER_DIVISOR;
                if (isThere[h] && weight > greatest) {
                    chosen = h;
                    greatest = weight;
                }
            }
            return chosen;
        }
    }
}
