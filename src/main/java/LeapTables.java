import java.util.Arrays;
import java.util.NoSuchElementException;

/** Small tables of numbers, rules that grow them to their end, and queries answered by leaping. */
public final class LeapTables {
    private static final int NONE = -1;
    private static final int MOST_TABLES = 5;
    private static final int MOST_COLUMNS = 3;
    private static final int MOST_FACTS = 60;
    private static final int MOST_RULES = 5;
    private static final int MOST_ATOMS = 5;
    private static final int MOST_RULE_ATOMS = 4;
    private static final int MOST_UNDOS = 10;
    private static final int QUERIES = 4;
    private static final int VARIABLES = 4;
    private static final int VALUES = 8;
    private static final int ROWS = 512;
    private static final int KEYS = 4096;
    private static final int FIRST_ORDER = 123;
    private static final int MANY = 1000000;
    private static final long GREATEST = 0x7FFFFFFFFFFFFFFFL;

    private final State now = new State();
    private final History history = new History();
    private final Growth growth = new Growth();
    private final Answers found = new Answers();
    private final Cover covers = new Cover();
    private final Tree tree = new Tree();
    private final Rows made = new Rows();

    /** The query whose answers are found, or NONE. */
    private int foundFor = NONE;

    public LeapTables() {
        now.openTable(2);
        now.openTable(2);
        now.openTable(1);
        now.facts.add(0, rowOf(0, 1, 0));
        now.facts.add(0, rowOf(0, 2, 0));
        now.facts.add(0, rowOf(1, 2, 0));
        now.facts.add(0, rowOf(2, 0, 0));
        now.facts.add(0, rowOf(2, 3, 0));
        now.facts.add(0, rowOf(3, 4, 0));
        now.facts.add(2, rowOf(3, 0, 0));
        now.openRule(Atom.code(1, 2, 0, 1, 0));
        now.body(0).add(Atom.code(0, 2, 0, 1, 0));
        now.openRule(Atom.code(1, 2, 0, 2, 0));
        now.body(1).add(Atom.code(1, 2, 0, 1, 0));
        now.body(1).add(Atom.code(0, 2, 1, 2, 0));
        now.query(0).add(Atom.code(0, 2, 0, 1, 0));
        now.query(0).add(Atom.code(0, 2, 1, 2, 0));
        now.query(0).add(Atom.code(0, 2, 2, 0, 0));
        now.query(1).add(Atom.code(1, 2, 0, 1, 0));
        now.query(1).add(Atom.code(2, 1, 1, 0, 0));
    }

    // ---- Changes

    public int addTable(int columns) throws IllegalArgumentException, IllegalStateException {
        if (columns < 1 || columns > MOST_COLUMNS) {
            throw new IllegalArgumentException("a table has 1 to 3 columns");
        }
        if (now.tableTotal >= MOST_TABLES) {
            throw new IllegalStateException("there are 5 tables");
        }
        keepForUndo();
        growth.forget();
        now.openTable(columns);
        return now.tableTotal - 1;
    }

    public int addFact(int table, int a, int b, int c)
            throws IndexOutOfBoundsException, IllegalArgumentException, IllegalStateException {
        needTable(table);
        needRow(table, a, b, c);
        int row = rowOf(a, b, c);
        if (now.facts.has(table, row)) {
            throw new IllegalStateException("it is a fact");
        }
        if (now.facts.size(table) >= MOST_FACTS) {
            throw new IllegalStateException("the table has 60 facts");
        }
        keepForUndo();
        growth.forget();
        now.facts.add(table, row);
        return now.facts.size(table);
    }

    public int removeFact(int table, int a, int b, int c)
            throws IndexOutOfBoundsException, IllegalArgumentException, NoSuchElementException {
        needTable(table);
        needRow(table, a, b, c);
        int row = rowOf(a, b, c);
        if (!now.facts.has(table, row)) {
            throw new NoSuchElementException("it is no fact");
        }
        keepForUndo();
        growth.forget();
        now.facts.remove(table, row);
        return now.facts.size(table);
    }

    public int addAtom(int query, int table, int a, int b, int c)
            throws IndexOutOfBoundsException, IllegalArgumentException, IllegalStateException {
        needQuery(query);
        needTable(table);
        needVariables(table, a, b, c);
        AtomList atoms = now.query(query);
        if (atoms.size >= MOST_ATOMS) {
            throw new IllegalStateException("the query has 5 atoms");
        }
        keepForUndo();
        atoms.add(Atom.code(table, now.widths.at(table), a, b, c));
        return atoms.size - 1;
    }

    public int clearQuery(int query) throws IndexOutOfBoundsException {
        needQuery(query);
        AtomList atoms = now.query(query);
        int before = atoms.size;
        keepForUndo();
        atoms.clear();
        return before;
    }

    public int setOrder(int query, int order) throws IndexOutOfBoundsException, IllegalArgumentException {
        needQuery(query);
        if (!isOrder(order)) {
            throw new IllegalArgumentException("the digits of an order are 0, 1, 2 and 3, each once");
        }
        int before = now.orders.at(query);
        keepForUndo();
        now.orders.put(query, order);
        return before;
    }

    public int clearIdle(int query, int atom) throws IndexOutOfBoundsException {
        needQuery(query);
        needAtom(query, atom);
        growth.refresh(now);
        look(query);
        int code = now.query(query).at(atom);
        markMade(code);
        keepForUndo();
        growth.forget();
        int table = Atom.table(code);
        int before = now.facts.size(table);
        now.facts.keepOnly(table, made);
        return before - now.facts.size(table);
    }

    public int addRule(int table, int a, int b, int c)
            throws IndexOutOfBoundsException, IllegalArgumentException, IllegalStateException {
        needTable(table);
        needVariables(table, a, b, c);
        if (now.ruleTotal >= MOST_RULES) {
            throw new IllegalStateException("there are 5 rules");
        }
        keepForUndo();
        growth.forget();
        now.openRule(Atom.code(table, now.widths.at(table), a, b, c));
        return now.ruleTotal - 1;
    }

    public int addRuleAtom(int rule, int table, int a, int b, int c, boolean isNot)
            throws IndexOutOfBoundsException, IllegalArgumentException, IllegalStateException {
        needRule(rule);
        needTable(table);
        needVariables(table, a, b, c);
        AtomList body = now.body(rule);
        if (body.size >= MOST_RULE_ATOMS) {
            throw new IllegalStateException("the rule has 4 atoms");
        }
        int plain = Atom.code(table, now.widths.at(table), a, b, c);
        int code = isNot ? Atom.withNot(plain) : plain;
        if (!growth.staysLayered(now, rule, code)) {
            throw new IllegalStateException("there would be no layers");
        }
        keepForUndo();
        growth.forget();
        body.add(code);
        return body.size;
    }

    public int dropRule(int rule) throws IndexOutOfBoundsException {
        needRule(rule);
        keepForUndo();
        growth.forget();
        now.closeRule(rule);
        return now.ruleTotal;
    }

    // ---- Undo

    public int undo() {
        if (history.kept == 0) {
            return NONE;
        }
        history.bringBack(now);
        growth.forget();
        foundFor = NONE;
        return history.kept;
    }

    // ---- Tables

    public int tableCount() {
        return now.tableTotal;
    }

    public int columns(int table) throws IndexOutOfBoundsException {
        needTable(table);
        return now.widths.at(table);
    }

    public int factCount(int table) throws IndexOutOfBoundsException {
        needTable(table);
        return now.facts.size(table);
    }

    public int rowCount(int table) throws IndexOutOfBoundsException {
        needTable(table);
        growth.refresh(now);
        return growth.rows.size(table);
    }

    public boolean isFact(int table, int a, int b, int c)
            throws IndexOutOfBoundsException, IllegalArgumentException {
        needTable(table);
        needRow(table, a, b, c);
        return now.facts.has(table, rowOf(a, b, c));
    }

    public int reasons(int table, int a, int b, int c)
            throws IndexOutOfBoundsException, IllegalArgumentException {
        needTable(table);
        needRow(table, a, b, c);
        growth.refresh(now);
        return growth.reasonsOf(now, table, rowOf(a, b, c));
    }

    public int rowAt(int table, int row, int column) throws IndexOutOfBoundsException {
        needTable(table);
        needColumn(table, column);
        growth.refresh(now);
        if (row < 0 || row >= growth.rows.size(table)) {
            throw new IndexOutOfBoundsException("no such row");
        }
        return valueIn(growth.rows.numbered(table, row), column);
    }

    public int firstFrom(int table, int a, int b, int c)
            throws IndexOutOfBoundsException, IllegalArgumentException, NoSuchElementException {
        needTable(table);
        needRow(table, a, b, c);
        growth.refresh(now);
        int less = growth.rows.countBelow(table, rowOf(a, b, c));
        if (less >= growth.rows.size(table)) {
            throw new NoSuchElementException("all rows are less");
        }
        return less;
    }

    public int values(int table, int column) throws IndexOutOfBoundsException {
        needTable(table);
        needColumn(table, column);
        growth.refresh(now);
        int seen = 0;
        for (int row = 0; row < ROWS; row++) {
            if (growth.rows.has(table, row)) {
                seen |= 1 << valueIn(row, column);
            }
        }
        return Integer.bitCount(seen);
    }

    public int lower(int table, int value)
            throws IndexOutOfBoundsException, IllegalArgumentException, NoSuchElementException {
        needTable(table);
        if (value < 0 || value > VALUES) {
            throw new IllegalArgumentException("the value is 0 to 8");
        }
        growth.refresh(now);
        for (int first = value - 1; first >= 0; first--) {
            if (growth.rows.word(table, first) != 0) {
                return first;
            }
        }
        throw new NoSuchElementException("no value is less");
    }

    // ---- Queries

    public int atomCount(int query) throws IndexOutOfBoundsException {
        needQuery(query);
        return now.query(query).size;
    }

    public int answers(int query) throws IndexOutOfBoundsException {
        needQuery(query);
        growth.refresh(now);
        look(query);
        return found.total;
    }

    public int answerAt(int query, int answer, int variable) throws IndexOutOfBoundsException {
        needQuery(query);
        needStanding(query, variable);
        growth.refresh(now);
        look(query);
        if (answer < 0 || answer >= found.total) {
            throw new IndexOutOfBoundsException("no such answer");
        }
        int key = NONE;
        for (int n = 0; n < answer; n++) {
            key = found.after(key);
        }
        found.pickAfter(key);
        return Atom.valueOf(variable, found.picked);
    }

    public int seek(int query, int first, int second, int third, int fourth)
            throws IndexOutOfBoundsException, IllegalArgumentException, NoSuchElementException {
        needQuery(query);
        if (!isValue(first) || !isValue(second) || !isValue(third) || !isValue(fourth)) {
            throw new IllegalArgumentException("values are 0 to 7");
        }
        growth.refresh(now);
        look(query);
        int wanted = found.keyOf(first, second, third, fourth);
        int less = found.countBelow(wanted);
        if (less >= found.total) {
            throw new NoSuchElementException("all answers are less");
        }
        return less;
    }

    public int leaps(int query) throws IndexOutOfBoundsException {
        needQuery(query);
        growth.refresh(now);
        look(query);
        return found.search.leapTotal;
    }

    public int groups(int query, int variable) throws IndexOutOfBoundsException {
        needQuery(query);
        needStanding(query, variable);
        growth.refresh(now);
        look(query);
        int count = 0;
        for (int value = 0; value < VALUES; value++) {
            count += found.sizeWith(variable, value) > 0 ? 1 : 0;
        }
        return count;
    }

    public int groupSize(int query, int variable, int value)
            throws IndexOutOfBoundsException, IllegalArgumentException {
        needQuery(query);
        needStanding(query, variable);
        if (!isValue(value)) {
            throw new IllegalArgumentException("values are 0 to 7");
        }
        growth.refresh(now);
        look(query);
        return found.sizeWith(variable, value);
    }

    public int idleRows(int query, int atom) throws IndexOutOfBoundsException {
        needQuery(query);
        needAtom(query, atom);
        growth.refresh(now);
        look(query);
        int code = now.query(query).at(atom);
        markMade(code);
        int table = Atom.table(code);
        return growth.rows.size(table) - made.size(table);
    }

    public boolean isTree(int query) throws IndexOutOfBoundsException {
        needQuery(query);
        return tree.reduces(now.query(query));
    }

    public int cover(int query) throws IndexOutOfBoundsException {
        needQuery(query);
        growth.refresh(now);
        covers.weighAll(now.query(query), growth.rows);
        return covers.leastHalves;
    }

    public long bound(int query) throws IndexOutOfBoundsException {
        needQuery(query);
        growth.refresh(now);
        covers.weighAll(now.query(query), growth.rows);
        return covers.leastProduct;
    }

    // ---- Rules

    public int ruleCount() {
        return now.ruleTotal;
    }

    public boolean isIdle(int rule) throws IndexOutOfBoundsException {
        needRule(rule);
        return now.rests(rule);
    }

    public int layerOf(int table) throws IndexOutOfBoundsException {
        needTable(table);
        growth.refresh(now);
        return growth.layers.at(table);
    }

    public int rounds() {
        growth.refresh(now);
        return growth.roundTotal;
    }

    public int firings(int rule) throws IndexOutOfBoundsException {
        needRule(rule);
        growth.refresh(now);
        return growth.fired.at(rule);
    }

    // ---- Measures and the second way

    public double meanReasons() {
        growth.refresh(now);
        int rows = rowTotal();
        if (rows == 0) {
            return 0.0;
        }
        long sum = 0;
        for (int table = 0; table < now.tableTotal; table++) {
            for (int row = 0; row < ROWS; row++) {
                sum += growth.reasonsOf(now, table, row);
            }
        }
        return (double) sum / (double) rows;
    }

    public float factShare() {
        growth.refresh(now);
        int rows = rowTotal();
        if (rows == 0) {
            return 0.0f;
        }
        int facts = 0;
        for (int table = 0; table < now.tableTotal; table++) {
            facts += now.facts.size(table);
        }
        return (float) facts / (float) rows;
    }

    public int errors() {
        growth.refresh(now);
        int wrong = 0;
        for (int query = 0; query < QUERIES; query++) {
            look(query);
            wrong += found.total == countPlainly(now.query(query)) ? 0 : 1;
        }
        for (int table = 0; table < now.tableTotal; table++) {
            wrong += rowsWithoutReason(table);
        }
        return wrong;
    }

    public int checksum() {
        growth.refresh(now);
        int sum = 17;
        for (int table = 0; table < now.tableTotal; table++) {
            for (int row = 0; row < ROWS; row++) {
                if (growth.rows.has(table, row)) {
                    sum = withRow(sum, row, now.widths.at(table));
                }
            }
        }
        for (int query = 0; query < QUERIES; query++) {
            look(query);
            sum = 31 * sum + found.total;
        }
        return sum;
    }

    // ---- What the calls share

    private void needTable(int table) {
        if (table < 0 || table >= now.tableTotal) {
            throw new IndexOutOfBoundsException("no such table");
        }
    }

    private void needColumn(int table, int column) {
        if (column < 0 || column >= now.widths.at(table)) {
            throw new IndexOutOfBoundsException("no such column");
        }
    }

    private void needQuery(int query) {
        if (query < 0 || query >= QUERIES) {
            throw new IndexOutOfBoundsException("no such query");
        }
    }

    private void needAtom(int query, int atom) {
        if (atom < 0 || atom >= now.query(query).size) {
            throw new IndexOutOfBoundsException("no such atom");
        }
    }

    private void needStanding(int query, int variable) {
        if (variable < 0 || variable >= VARIABLES) {
            throw new IndexOutOfBoundsException("no such variable");
        }
        if ((now.query(query).variables(false) & (1 << variable)) == 0) {
            throw new IndexOutOfBoundsException("the variable does not stand in the query");
        }
    }

    private void needRule(int rule) {
        if (rule < 0 || rule >= now.ruleTotal) {
            throw new IndexOutOfBoundsException("no such rule");
        }
    }

    private void needRow(int table, int a, int b, int c) {
        if (!areInColumns(now.widths.at(table), VALUES, a, b, c)) {
            throw new IllegalArgumentException("the row is not as told");
        }
    }

    private void needVariables(int table, int a, int b, int c) {
        if (!areInColumns(now.widths.at(table), VARIABLES, a, b, c)) {
            throw new IllegalArgumentException("the variables are not as told");
        }
    }

    /** Whether each number is less than the limit, and 0 where there is no column for it. */
    private static boolean areInColumns(int width, int limit, int a, int b, int c) {
        int limitB = width > 1 ? limit : 1;
        int limitC = width > 2 ? limit : 1;
        return a >= 0 && a < limit && b >= 0 && b < limitB && c >= 0 && c < limitC;
    }

    private static boolean isValue(int value) {
        return value >= 0 && value < VALUES;
    }

    private static boolean isOrder(int order) {
        if (order < 0 || order > 9999) {
            return false;
        }
        int seen = 0;
        for (int place = 0; place < VARIABLES; place++) {
            seen |= 1 << digitOf(order, place);
        }
        return seen == (1 << VARIABLES) - 1;
    }

    /** The digit of an order at a place; place 0 is the first one. */
    private static int digitOf(int order, int place) {
        switch (place) {
            case 0:
                return order / 1000 % 10;
            case 1:
                return order / 100 % 10;
            case 2:
                return order / 10 % 10;
            default:
                return order % 10;
        }
    }

    /** Rows are numbered so that the numbers ascend as the rows do. */
    private static int rowOf(int a, int b, int c) {
        return (a << 6) | (b << 3) | c;
    }

    private static int valueIn(int row, int column) {
        switch (column) {
            case 0:
                return (row >> 6) & 7;
            case 1:
                return (row >> 3) & 7;
            default:
                return row & 7;
        }
    }

    private static int withRow(int sum, int row, int width) {
        int result = sum;
        for (int column = 0; column < width; column++) {
            result = 31 * result + valueIn(row, column);
        }
        return result;
    }

    private void keepForUndo() {
        history.keep(now);
        foundFor = NONE;
    }

    /** Does not refresh the rows itself, so that calls stay at most eight deep: its callers do that first. */
    private void look(int query) {
        if (foundFor != query) {
            found.find(now.query(query), now.orders.at(query), growth.rows);
            foundFor = query;
        }
    }

    /** Marks the rows that an atom makes with the answers that are found. */
    private void markMade(int code) {
        made.clear();
        int key = NONE;
        for (int n = 0; n < found.total; n++) {
            key = found.pickAfter(key);
            made.add(Atom.table(code), Atom.row(code, found.picked));
        }
    }

    private int rowTotal() {
        int total = 0;
        for (int table = 0; table < now.tableTotal; table++) {
            total += growth.rows.size(table);
        }
        return total;
    }

    /** Tries all values one by one, so that the leaps are checked by another way. */
    private int countPlainly(AtomList atoms) {
        if (atoms.size == 0) {
            return 0;
        }
        int variables = atoms.variables(false);
        int tries = 1 << (3 * Integer.bitCount(variables));
        int count = 0;
        for (int n = 0; n < tries; n++) {
            count += allFit(atoms, Atom.spread(n, variables)) ? 1 : 0;
        }
        return count;
    }

    private boolean allFit(AtomList atoms, int chosen) {
        for (int i = 0; i < atoms.size; i++) {
            int code = atoms.at(i);
            if (!growth.rows.has(Atom.table(code), Atom.row(code, chosen))) {
                return false;
            }
        }
        return true;
    }

    private int rowsWithoutReason(int table) {
        int count = 0;
        for (int row = 0; row < ROWS; row++) {
            if (growth.rows.has(table, row) && growth.reasonsOf(now, table, row) == 0) {
                count++;
            }
        }
        return count;
    }

    /** Numbers by place; a place that is not there reads as 0 and is never written. */
    private static final class Ints {
        private final int[] cells;

        Ints(int size) {
            cells = new int[size < 0 ? 0 : size];
        }

        int at(int place) {
            return place >= 0 && place < cells.length ? cells[place] : 0;
        }

        void put(int place, int value) {
            if (place >= 0 && place < cells.length) {
                cells[place] = value;
            }
        }

        void fill(int value) {
            Arrays.fill(cells, value);
        }

        void copyFrom(Ints other) {
            for (int place = 0; place < cells.length && place < other.cells.length; place++) {
                cells[place] = other.cells[place];
            }
        }
    }

    /** A set of rows for each table: a word for each value of the first column, with bit 8 b + c for a row. */
    private static final class Rows {
        private final long[] words = new long[MOST_TABLES * VALUES];

        long word(int table, int first) {
            int place = table * VALUES + first;
            return place >= 0 && place < words.length ? words[place] : 0;
        }

        boolean has(int table, int row) {
            int place = table * VALUES + (row >> 6);
            return place >= 0 && place < words.length && ((words[place] >> (row & 63)) & 1) != 0;
        }

        void add(int table, int row) {
            int place = table * VALUES + (row >> 6);
            if (place >= 0 && place < words.length) {
                words[place] |= 1L << (row & 63);
            }
        }

        void remove(int table, int row) {
            int place = table * VALUES + (row >> 6);
            if (place >= 0 && place < words.length) {
                words[place] &= ~(1L << (row & 63));
            }
        }

        void clear() {
            Arrays.fill(words, 0L);
        }

        void copyFrom(Rows other) {
            for (int place = 0; place < words.length && place < other.words.length; place++) {
                words[place] = other.words[place];
            }
        }

        /** Takes all rows of another set; tells whether one of them is new. */
        boolean take(Rows other) {
            boolean isNew = false;
            for (int place = 0; place < words.length && place < other.words.length; place++) {
                long both = words[place] | other.words[place];
                isNew |= both != words[place];
                words[place] = both;
            }
            return isNew;
        }

        void keepOnly(int table, Rows other) {
            for (int first = 0; first < VALUES; first++) {
                int place = table * VALUES + first;
                if (place >= 0 && place < words.length) {
                    words[place] &= other.word(table, first);
                }
            }
        }

        int size(int table) {
            int count = 0;
            for (int first = 0; first < VALUES; first++) {
                count += Long.bitCount(word(table, first));
            }
            return count;
        }

        int countBelow(int table, int row) {
            int count = 0;
            for (int less = 0; less < row && less < ROWS; less++) {
                count += has(table, less) ? 1 : 0;
            }
            return count;
        }

        int numbered(int table, int number) {
            int left = number;
            for (int row = 0; row < ROWS; row++) {
                if (has(table, row)) {
                    if (left == 0) {
                        return row;
                    }
                    left--;
                }
            }
            return 0;
        }
    }

    /**
     * An atom or a head as one number, so that lists of them are numbers too: from the low bits up
     * its table (3), its width (2), the variables of its columns (2 each), all its variables as a set (4), not (1).
     * Values of the variables are one number as well: 4 bits for each, 8 and the value, or 0 if it has none.
     */
    private static final class Atom {
        private static final int NOT = 1 << 15;

        static int code(int table, int width, int a, int b, int c) {
            int set = 1 << a;
            set |= width > 1 ? 1 << b : 0;
            set |= width > 2 ? 1 << c : 0;
            return table | (width << 3) | (a << 5) | (b << 7) | (c << 9) | (set << 11);
        }

        static int withNot(int code) {
            return code | NOT;
        }

        static boolean isNot(int code) {
            return (code & NOT) != 0;
        }

        static int table(int code) {
            return code & 7;
        }

        static int width(int code) {
            return (code >> 3) & 3;
        }

        static int variable(int code, int column) {
            boolean isThere = column >= 0 && column < ((code >> 3) & 3);
            return isThere ? (code >> (5 + 2 * column)) & 3 : NONE;
        }

        static int variables(int code) {
            return (code >> 11) & 15;
        }

        static boolean stands(int code, int variable) {
            return ((code >> (11 + variable)) & 1) != 0;
        }

        static int withValue(int chosen, int variable, int value) {
            return (chosen & ~(15 << (4 * variable))) | ((8 | value) << (4 * variable));
        }

        static int withoutValue(int chosen, int variable) {
            return chosen & ~(15 << (4 * variable));
        }

        static boolean hasValue(int variable, int chosen) {
            return ((chosen >> (4 * variable)) & 8) != 0;
        }

        static int valueOf(int variable, int chosen) {
            return (chosen >> (4 * variable)) & 7;
        }

        /** Gives the variables of a set the values that are the digits of a number to the base of 8. */
        static int spread(int number, int variables) {
            int rest = number;
            int chosen = 0;
            for (int variable = 0; variable < VARIABLES; variable++) {
                if ((variables & (1 << variable)) != 0) {
                    chosen = withValue(chosen, variable, rest & 7);
                    rest >>= 3;
                }
            }
            return chosen;
        }

        static int row(int code, int chosen) {
            int row = 0;
            for (int column = 0; column < MOST_COLUMNS; column++) {
                int variable = variable(code, column);
                row = (row << 3) | (variable == NONE ? 0 : valueOf(variable, chosen));
            }
            return row;
        }

        /** Whether a row has the same value in all columns of one variable. */
        static boolean agrees(int code, int row) {
            int chosen = 0;
            for (int column = 0; column < width(code); column++) {
                chosen = withValue(chosen, variable(code, column), valueIn(row, column));
            }
            return row(code, chosen) == row;
        }
    }

    private static final class AtomList {
        private final Ints codes = new Ints(MOST_ATOMS);
        private int size;

        int at(int place) {
            return codes.at(place);
        }

        void add(int code) {
            if (size < MOST_ATOMS) {
                codes.put(size, code);
                size++;
            }
        }

        void clear() {
            size = 0;
        }

        void copyFrom(AtomList other) {
            codes.copyFrom(other.codes);
            size = other.size;
        }

        /** All variables of its atoms with not, or of those without, as a set. */
        int variables(boolean isNot) {
            int set = 0;
            for (int i = 0; i < size; i++) {
                int code = codes.at(i);
                set |= Atom.isNot(code) == isNot ? Atom.variables(code) : 0;
            }
            return set;
        }

        int standing(int variable) {
            int count = 0;
            for (int i = 0; i < size; i++) {
                count += Atom.stands(codes.at(i), variable) ? 1 : 0;
            }
            return count;
        }

        /** The next place in turn with an atom in which a variable stands. */
        int nextWith(int variable, int turn) {
            int place = turn;
            for (int step = 0; step < size; step++) {
                place = place + 1 >= size ? 0 : place + 1;
                if (Atom.stands(codes.at(place), variable)) {
                    return place;
                }
            }
            return place;
        }
    }

    /** All that changes can change, and that undoing brings back. */
    private static final class State {
        private final Ints widths = new Ints(MOST_TABLES);
        private final Rows facts = new Rows();
        private final Ints orders = new Ints(QUERIES);
        private final Ints heads = new Ints(MOST_RULES);
        private final AtomList[] queries = new AtomList[QUERIES];
        private final AtomList[] bodies = new AtomList[MOST_RULES];
        private final AtomList nothing = new AtomList();
        private int tableTotal;
        private int ruleTotal;

        State() {
            for (int query = 0; query < queries.length; query++) {
                queries[query] = new AtomList();
            }
            for (int rule = 0; rule < bodies.length; rule++) {
                bodies[rule] = new AtomList();
            }
            orders.fill(FIRST_ORDER);
        }

        AtomList query(int query) {
            AtomList atoms = query >= 0 && query < queries.length ? queries[query] : null;
            return atoms == null ? nothing : atoms;
        }

        AtomList body(int rule) {
            AtomList atoms = rule >= 0 && rule < bodies.length ? bodies[rule] : null;
            return atoms == null ? nothing : atoms;
        }

        void openTable(int width) {
            widths.put(tableTotal, width);
            tableTotal++;
        }

        void openRule(int head) {
            heads.put(ruleTotal, head);
            body(ruleTotal).clear();
            ruleTotal++;
        }

        void closeRule(int rule) {
            for (int place = rule; place + 1 < ruleTotal; place++) {
                heads.put(place, heads.at(place + 1));
                body(place).copyFrom(body(place + 1));
            }
            ruleTotal--;
        }

        /** Not named isIdle, since no private method may bear the name of a call of the face. */
        boolean rests(int rule) {
            int bound = body(rule).variables(false);
            int needed = Atom.variables(heads.at(rule)) | body(rule).variables(true);
            return (needed & ~bound) != 0;
        }

        void copyFrom(State other) {
            widths.copyFrom(other.widths);
            facts.copyFrom(other.facts);
            orders.copyFrom(other.orders);
            heads.copyFrom(other.heads);
            for (int query = 0; query < QUERIES; query++) {
                query(query).copyFrom(other.query(query));
            }
            for (int rule = 0; rule < MOST_RULES; rule++) {
                body(rule).copyFrom(other.body(rule));
            }
            tableTotal = other.tableTotal;
            ruleTotal = other.ruleTotal;
        }
    }

    /** The states ahead of the latest changes, in a ring that forgets the oldest one. */
    private static final class History {
        private final State[] past = new State[MOST_UNDOS];
        private int next;
        private int kept;

        History() {
            for (int place = 0; place < past.length; place++) {
                past[place] = new State();
            }
        }

        void keep(State now) {
            State slot = slotAt(next);
            if (slot != null) {
                slot.copyFrom(now);
            }
            next = next + 1 >= MOST_UNDOS ? 0 : next + 1;
            kept = kept < MOST_UNDOS ? kept + 1 : MOST_UNDOS;
        }

        void bringBack(State now) {
            next = next <= 0 ? MOST_UNDOS - 1 : next - 1;
            State slot = slotAt(next);
            if (slot != null) {
                now.copyFrom(slot);
            }
            kept--;
        }

        private State slotAt(int place) {
            return place >= 0 && place < past.length ? past[place] : null;
        }
    }

    /** Goes by leaps from answer to answer of some atoms; those with not are left out. */
    private static final class Search {
        private static final long EIGHT_ROWS = 0xFFL;
        private static final long EACH_EIGHTH = 0x0101010101010101L;
        private static final long ALIKE = 0x8040201008040201L;

        private final AtomList atoms = new AtomList();
        private final Ints sequence = new Ints(VARIABLES);
        private final Ints askers = new Ints(VARIABLES);
        private final Ints reached = new Ints(VARIABLES);
        private final Ints tellers = new Ints(VARIABLES);
        private final Ints turns = new Ints(VARIABLES);
        private final Ints keys = new Ints(VARIABLES);
        private int variableTotal;
        private int depth;
        private int leapTotal;

        /** The values that are chosen, at an answer those of all variables. */
        private int chosen;

        /** The values of the answer as the digits of a number to the base of 8, in the order of the variables. */
        private int key;

        void start(AtomList list, int order) {
            atoms.clear();
            for (int i = 0; i < list.size; i++) {
                if (!Atom.isNot(list.at(i))) {
                    atoms.add(list.at(i));
                }
            }
            int variables = atoms.variables(false);
            variableTotal = 0;
            for (int place = 0; place < VARIABLES; place++) {
                int variable = digitOf(order, place);
                if ((variables & (1 << variable)) != 0) {
                    sequence.put(variableTotal, variable);
                    askers.put(variableTotal, atoms.standing(variable));
                    variableTotal++;
                }
            }
            leapTotal = 0;
            chosen = 0;
            key = 0;
            depth = NONE;
            if (variableTotal > 0) {
                beginVariable();
            }
        }

        /** Goes on to the next answer; false if there is none. */
        boolean advance(Rows rows) {
            for (int n = 0; depth >= 0 && n < MANY; n++) {
                int value = ask(rows);
                if (value == NONE) {
                    depth--;
                } else if (tellers.at(depth) >= askers.at(depth)) {
                    choose(value);
                    if (depth + 1 >= variableTotal) {
                        return true;
                    }
                    beginVariable();
                }
            }
            return false;
        }

        private void beginVariable() {
            depth++;
            reached.put(depth, 0);
            tellers.put(depth, 0);
            turns.put(depth, NONE);
            keys.put(depth, key);
        }

        /** One leap: asks the next atom in turn for the least value that is not less than the one reached. */
        private int ask(Rows rows) {
            int variable = sequence.at(depth);
            int turn = atoms.nextWith(variable, turns.at(depth));
            int x = reached.at(depth);
            chosen = Atom.withoutValue(chosen, variable);
            int value = least(atoms.at(turn), variable, x, rows);
            leapTotal++;
            if (value != NONE) {
                turns.put(depth, turn);
                reached.put(depth, value);
                tellers.put(depth, value > x ? 1 : tellers.at(depth) + 1);
            }
            return value;
        }

        /** Chooses a value, and has its variable go on behind it when it is its turn again. */
        private void choose(int value) {
            chosen = Atom.withValue(chosen, sequence.at(depth), value);
            key = (keys.at(depth) << 3) | value;
            reached.put(depth, value + 1);
            tellers.put(depth, 0);
        }

        /** The least value from x on that a variable has in a row that fits what is chosen. */
        private int least(int code, int variable, int x, Rows rows) {
            int first = Atom.variable(code, 0);
            int second = Atom.variable(code, 1);
            int third = Atom.variable(code, 2);
            long open = mask(second, EIGHT_ROWS, 8) & mask(third, EACH_EIGHTH, 1);
            open &= second != NONE && second == third ? ALIKE : -1L;
            long joined = 0;
            boolean isPinned = Atom.hasValue(first, chosen);
            int from = isPinned ? Atom.valueOf(first, chosen) : first == variable ? x : 0;
            int end = isPinned ? from + 1 : VALUES;
            for (int value = from; value < end; value++) {
                long cells = rows.word(Atom.table(code), value) & open;
                cells &= second == first ? EIGHT_ROWS << (8 * value) : -1L;
                cells &= third == first ? EACH_EIGHTH << value : -1L;
                if (first == variable && cells != 0) {
                    return value;
                }
                joined |= cells;
            }
            return first == variable ? NONE : leastIn(joined, x, second == variable);
        }

        private int leastIn(long joined, int x, boolean isSecond) {
            for (int value = x; value < VALUES; value++) {
                long cells = isSecond ? EIGHT_ROWS << (8 * value) : EACH_EIGHTH << value;
                if ((joined & cells) != 0) {
                    return value;
                }
            }
            return NONE;
        }

        /** The rows that a column leaves open: those with the value of its variable, all if it has none. */
        private long mask(int variable, long ofValueZero, int step) {
            if (variable == NONE) {
                return -1L;
            }
            int own = (chosen >> (4 * variable)) & 15;
            return own == 0 ? -1L : ofValueZero << (step * (own & 7));
        }
    }

    /** All answers of a query, as the set of their keys; ascending keys are the order of the answers. */
    private static final class Answers {
        private final Search search = new Search();
        private final long[] words = new long[KEYS / 64];
        private int total;

        /** The values of the answer that was picked. */
        private int picked;

        void find(AtomList atoms, int order, Rows rows) {
            Arrays.fill(words, 0L);
            total = 0;
            search.start(atoms, order);
            for (int n = 0; n <= KEYS && search.advance(rows); n++) {
                int place = search.key >> 6;
                if (place >= 0 && place < words.length) {
                    words[place] |= 1L << (search.key & 63);
                    total++;
                }
            }
        }

        /** The next key behind a key, or NONE. */
        int after(int key) {
            int next = key + 1;
            for (int n = 0; n < KEYS && next >= 0 && next < KEYS; n++) {
                int place = next >> 6;
                long rest = place < words.length ? words[place] >>> (next & 63) : 0;
                if ((rest & 1) != 0) {
                    return next;
                }
                next = rest == 0 ? (place + 1) * 64 : next + 1;
            }
            return NONE;
        }

        int countBelow(int key) {
            int less = NONE;
            for (int n = 0; n < total; n++) {
                less = after(less);
                if (less >= key) {
                    return n;
                }
            }
            return total;
        }

        /** Picks the next answer behind the one with a key, and tells its key. */
        int pickAfter(int key) {
            int next = after(key);
            picked = 0;
            int rest = next;
            for (int depth = search.variableTotal - 1; depth >= 0; depth--) {
                picked = Atom.withValue(picked, search.sequence.at(depth), rest & 7);
                rest >>= 3;
            }
            return next;
        }

        /** The key that an answer with these values would have, the first variable first. */
        int keyOf(int first, int second, int third, int fourth) {
            int all = (first << 9) | (second << 6) | (third << 3) | fourth;
            return all >> (3 * (VARIABLES - search.variableTotal));
        }

        int sizeWith(int variable, int value) {
            int count = 0;
            int key = NONE;
            for (int n = 0; n < total; n++) {
                key = pickAfter(key);
                count += Atom.valueOf(variable, picked) == value ? 1 : 0;
            }
            return count;
        }
    }

    /** What the rules make of a state: layers, rows, reasons. Made anew only when it was forgotten. */
    private static final class Growth {
        private final Search search = new Search();
        private final Rows rows = new Rows();
        private final Rows fresh = new Rows();
        private final Ints tried = new Ints(MOST_TABLES);
        private final Ints layers = new Ints(MOST_TABLES);
        private final Ints reasonTotals = new Ints(MOST_TABLES * ROWS);
        private final Ints fired = new Ints(MOST_RULES);
        private int roundTotal;
        private boolean isMade;

        void forget() {
            isMade = false;
        }

        void refresh(State state) {
            if (isMade) {
                return;
            }
            isMade = true;
            settle(state, layers, NONE, NONE);
            rows.copyFrom(state.facts);
            roundTotal = 0;
            for (int layer = 0; layer < MOST_TABLES; layer++) {
                boolean goesOn = hasWork(state, layer);
                for (int round = 0; goesOn && round < MANY; round++) {
                    roundTotal++;
                    fresh.clear();
                    for (int rule = 0; rule < state.ruleTotal; rule++) {
                        if (works(state, rule, layer)) {
                            fire(state, rule);
                        }
                    }
                    goesOn = rows.take(fresh);
                }
            }
            fired.fill(0);
            reasonTotals.fill(0);
            for (int rule = 0; rule < state.ruleTotal; rule++) {
                if (!state.rests(rule)) {
                    fire(state, rule);
                }
            }
        }

        private boolean hasWork(State state, int layer) {
            for (int rule = 0; rule < state.ruleTotal; rule++) {
                if (works(state, rule, layer)) {
                    return true;
                }
            }
            return false;
        }

        private boolean works(State state, int rule, int layer) {
            return !state.rests(rule) && layers.at(Atom.table(state.heads.at(rule))) == layer;
        }

        /** Applies a rule to the rows as they are, and counts what it gives. */
        private void fire(State state, int rule) {
            AtomList body = state.body(rule);
            int head = state.heads.at(rule);
            search.start(body, FIRST_ORDER);
            for (int n = 0; n <= KEYS && search.advance(rows); n++) {
                if (isBarred(body)) {
                    continue;
                }
                int row = Atom.row(head, search.chosen);
                int place = Atom.table(head) * ROWS + row;
                fresh.add(Atom.table(head), row);
                reasonTotals.put(place, reasonTotals.at(place) + 1);
                fired.put(rule, fired.at(rule) + 1);
            }
        }

        /** Whether an atom with not fits the values that the search has chosen. */
        private boolean isBarred(AtomList body) {
            for (int i = 0; i < body.size; i++) {
                int code = body.at(i);
                if (Atom.isNot(code) && rows.has(Atom.table(code), Atom.row(code, search.chosen))) {
                    return true;
                }
            }
            return false;
        }

        int reasonsOf(State state, int table, int row) {
            return reasonTotals.at(table * ROWS + row) + (state.facts.has(table, row) ? 1 : 0);
        }

        boolean staysLayered(State state, int rule, int more) {
            return settle(state, tried, rule, more);
        }

        /** Makes the least layers, also for one atom more of a rule; tells whether there are such. */
        private static boolean settle(State state, Ints layers, int ruleWithMore, int more) {
            layers.fill(0);
            boolean isRaised = true;
            // A way from table to table has at most four steps, so what still rises in the fifth pass rises for ever.
            for (int pass = 0; isRaised && pass < MOST_TABLES; pass++) {
                isRaised = false;
                for (int rule = 0; rule < state.ruleTotal; rule++) {
                    AtomList body = state.body(rule);
                    int head = state.heads.at(rule);
                    for (int i = 0; i < body.size; i++) {
                        isRaised |= raise(layers, head, body.at(i));
                    }
                    isRaised |= rule == ruleWithMore && raise(layers, head, more);
                }
            }
            return !isRaised;
        }

        private static boolean raise(Ints layers, int head, int code) {
            int needed = layers.at(Atom.table(code)) + (Atom.isNot(code) ? 1 : 0);
            if (layers.at(Atom.table(head)) >= needed) {
                return false;
            }
            layers.put(Atom.table(head), needed);
            return true;
        }
    }

    /** Weighs all covers in halves of a query. */
    private static final class Cover {
        private final Ints sizes = new Ints(MOST_ATOMS);
        private int leastHalves;
        private long leastProduct;

        void weighAll(AtomList atoms, Rows rows) {
            int covers = 1;
            for (int i = 0; i < atoms.size; i++) {
                sizes.put(i, sizeOf(atoms.at(i), rows));
                covers *= 3;
            }
            leastHalves = 2 * MOST_ATOMS;
            leastProduct = GREATEST;
            for (int cover = 0; cover < covers; cover++) {
                weigh(atoms, cover);
            }
        }

        private static int sizeOf(int code, Rows rows) {
            int count = 0;
            for (int row = 0; row < ROWS; row++) {
                count += rows.has(Atom.table(code), row) && Atom.agrees(code, row) ? 1 : 0;
            }
            return count;
        }

        /** The halves of the atoms are the digits of the number to the base of 3. */
        private void weigh(AtomList atoms, int number) {
            int rest = number;
            int halves = 0;
            long product = 1;
            int once = 0;
            int twice = 0;
            for (int i = 0; i < atoms.size; i++) {
                int variables = Atom.variables(atoms.at(i));
                int half = rest % 3;
                rest /= 3;
                halves += half;
                for (int n = 0; n < half; n++) {
                    product = times(product, sizes.at(i));
                    twice |= once & variables;
                    once |= variables;
                }
            }
            if (twice == atoms.variables(false)) {
                leastHalves = Math.min(leastHalves, halves);
                leastProduct = Math.min(leastProduct, product);
            }
        }

        /** The product, or the greatest number if it is greater: such a cover is never the least. */
        private static long times(long product, int size) {
            if (size == 0) {
                return 0;
            }
            return product > GREATEST / size ? GREATEST : product * size;
        }
    }

    /** Takes a query apart to see whether it is a tree. */
    private static final class Tree {
        private static final int GONE = -1;

        private final Ints sets = new Ints(MOST_ATOMS);

        boolean reduces(AtomList atoms) {
            for (int i = 0; i < atoms.size; i++) {
                sets.put(i, Atom.variables(atoms.at(i)));
            }
            boolean goesOn = true;
            for (int pass = 0; goesOn && pass < MANY; pass++) {
                goesOn = takeVariable(atoms.size) || takeAtom(atoms.size);
            }
            for (int i = 0; i < atoms.size; i++) {
                if (sets.at(i) != GONE) {
                    return false;
                }
            }
            return true;
        }

        private boolean takeVariable(int size) {
            for (int variable = 0; variable < VARIABLES; variable++) {
                int count = 0;
                int last = NONE;
                for (int i = 0; i < size; i++) {
                    if (sets.at(i) != GONE && (sets.at(i) & (1 << variable)) != 0) {
                        count++;
                        last = i;
                    }
                }
                if (count == 1) {
                    sets.put(last, sets.at(last) & ~(1 << variable));
                    return true;
                }
            }
            return false;
        }

        private boolean takeAtom(int size) {
            for (int i = 0; i < size; i++) {
                if (sets.at(i) != GONE && isSpare(i, size)) {
                    sets.put(i, GONE);
                    return true;
                }
            }
            return false;
        }

        private boolean isSpare(int atom, int size) {
            int set = sets.at(atom);
            for (int i = 0; i < size; i++) {
                if (i != atom && sets.at(i) != GONE && (set & ~sets.at(i)) == 0) {
                    return true;
                }
            }
            return set == 0;
        }
    }
}
