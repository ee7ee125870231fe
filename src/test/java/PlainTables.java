import java.math.BigInteger;
import java.util.ArrayDeque;
import java.util.ArrayList;
import java.util.Deque;
import java.util.HashSet;
import java.util.List;
import java.util.NoSuchElementException;
import java.util.Set;
import java.util.TreeSet;

/**
 * The document once more, by the slowest and plainest ways there are, to compare LeapTables with.
 * It shares no code with it, and where there is a second way (layers, trees) it goes that.
 */
public final class PlainTables {
    private record Atom(int table, int[] variables, boolean isNot) { }

    private record Rule(Atom head, List<Atom> atoms) { }

    private record Query(List<Atom> atoms, int order) { }

    private record State(List<Integer> widths, List<TreeSet<Integer>> facts, List<Query> queries, List<Rule> rules) { }

    private State now = new State(new ArrayList<>(), new ArrayList<>(), new ArrayList<>(), new ArrayList<>());
    private final Deque<State> past = new ArrayDeque<>();
    private List<TreeSet<Integer>> rows;
    private int roundCount;

    public PlainTables() {
        for (int width : new int[] {2, 2, 1}) {
            now.widths.add(width);
            now.facts.add(new TreeSet<>());
        }
        now.facts.get(0).addAll(List.of(10, 20, 120, 200, 230, 340));
        now.facts.get(2).add(300);
        now.rules.add(new Rule(atom(1, 0, 1), new ArrayList<>(List.of(atom(0, 0, 1)))));
        now.rules.add(new Rule(atom(1, 0, 2), new ArrayList<>(List.of(atom(1, 0, 1), atom(0, 1, 2)))));
        now.queries.add(new Query(new ArrayList<>(List.of(atom(0, 0, 1), atom(0, 1, 2), atom(0, 2, 0))), 123));
        now.queries.add(new Query(new ArrayList<>(List.of(atom(1, 0, 1), atom(2, 1))), 123));
        now.queries.add(new Query(new ArrayList<>(), 123));
        now.queries.add(new Query(new ArrayList<>(), 123));
    }

    private static Atom atom(int table, int... variables) {
        return new Atom(table, variables, false);
    }

    private void change() {
        past.addLast(copy(now));
        if (past.size() > 10) {
            past.removeFirst();
        }
        rows = null;
    }

    private static State copy(State s) {
        State c = new State(new ArrayList<>(s.widths), new ArrayList<>(), new ArrayList<>(), new ArrayList<>());
        s.facts.forEach(f -> c.facts.add(new TreeSet<>(f)));
        s.queries.forEach(q -> c.queries.add(new Query(new ArrayList<>(q.atoms), q.order)));
        s.rules.forEach(r -> c.rules.add(new Rule(r.head, new ArrayList<>(r.atoms))));
        return c;
    }

    private static void there(boolean isThere) {
        if (!isThere) {
            throw new IndexOutOfBoundsException();
        }
    }

    private static void right(boolean isRight) {
        if (!isRight) {
            throw new IllegalArgumentException();
        }
    }

    private static void open(boolean isOpen) {
        if (!isOpen) {
            throw new IllegalStateException();
        }
    }

    private void table(int table) {
        there(table >= 0 && table < now.widths.size());
    }

    private static void query(int query) {
        there(query >= 0 && query < 4);
    }

    private void rule(int rule) {
        there(rule >= 0 && rule < now.rules.size());
    }

    private int row(int table, int a, int b, int c) {
        numbers(table, 7, a, b, c);
        return 100 * a + 10 * b + c;
    }

    private int[] numbers(int table, int most, int... given) {
        int[] taken = new int[now.widths.get(table)];
        for (int i = 0; i < 3; i++) {
            if (i < taken.length) {
                right(given[i] >= 0 && given[i] <= most);
                taken[i] = given[i];
            } else {
                right(given[i] == 0);
            }
        }
        return taken;
    }

    private static int part(int row, int column) {
        return column == 0 ? row / 100 : column == 1 ? row / 10 % 10 : row % 10;
    }

    public int addTable(int columns) {
        right(columns >= 1 && columns <= 3);
        open(now.widths.size() < 5);
        change();
        now.widths.add(columns);
        now.facts.add(new TreeSet<>());
        return now.widths.size() - 1;
    }

    public int addFact(int table, int a, int b, int c) {
        table(table);
        int row = row(table, a, b, c);
        open(!now.facts.get(table).contains(row) && now.facts.get(table).size() != 60);
        change();
        now.facts.get(table).add(row);
        return now.facts.get(table).size();
    }

    public int removeFact(int table, int a, int b, int c) {
        table(table);
        int row = row(table, a, b, c);
        if (!now.facts.get(table).contains(row)) {
            throw new NoSuchElementException();
        }
        change();
        now.facts.get(table).remove(row);
        return now.facts.get(table).size();
    }

    public int addAtom(int query, int table, int a, int b, int c) {
        query(query);
        table(table);
        Atom atom = new Atom(table, numbers(table, 3, a, b, c), false);
        open(now.queries.get(query).atoms.size() < 5);
        change();
        now.queries.get(query).atoms.add(atom);
        return now.queries.get(query).atoms.size() - 1;
    }

    public int clearQuery(int query) {
        query(query);
        change();
        int count = now.queries.get(query).atoms.size();
        now.queries.get(query).atoms.clear();
        return count;
    }

    public int setOrder(int query, int order) {
        query(query);
        boolean isOrder = false;
        for (int a = 0; a < 4; a++) {
            for (int b = 0; b < 4; b++) {
                for (int c = 0; c < 4; c++) {
                    int d = 6 - a - b - c;
                    boolean areUnlike = d >= 0 && d < 4 && Set.copyOf(List.of(a, b, c, d)).size() == 4;
                    isOrder |= areUnlike && order == 1000 * a + 100 * b + 10 * c + d;
                }
            }
        }
        right(isOrder);
        change();
        int before = now.queries.get(query).order;
        now.queries.set(query, new Query(now.queries.get(query).atoms, order));
        return before;
    }

    public int clearIdle(int query, int atom) {
        Set<Integer> busy = busyRows(query, atom);
        change();
        TreeSet<Integer> facts = now.facts.get(now.queries.get(query).atoms.get(atom).table);
        int before = facts.size();
        facts.retainAll(busy);
        return before - facts.size();
    }

    private Set<Integer> busyRows(int query, int atom) {
        query(query);
        there(atom >= 0 && atom < now.queries.get(query).atoms.size());
        Set<Integer> busy = new HashSet<>();
        for (int[] answer : answerList(query)) {
            busy.add(rowMade(now.queries.get(query).atoms.get(atom), answer));
        }
        return busy;
    }

    public int addRule(int table, int a, int b, int c) {
        table(table);
        Atom head = new Atom(table, numbers(table, 3, a, b, c), false);
        open(now.rules.size() < 5);
        change();
        now.rules.add(new Rule(head, new ArrayList<>()));
        return now.rules.size() - 1;
    }

    public int addRuleAtom(int rule, int table, int a, int b, int c, boolean isNot) {
        there(rule >= 0 && rule < now.rules.size() && table >= 0 && table < now.widths.size());
        Atom atom = new Atom(table, numbers(table, 3, a, b, c), isNot);
        open(now.rules.get(rule).atoms.size() < 4);
        State tried = copy(now);
        tried.rules.get(rule).atoms.add(atom);
        open(layersOf(tried) != null);
        change();
        now.rules.get(rule).atoms.add(atom);
        return now.rules.get(rule).atoms.size();
    }

    public int dropRule(int rule) {
        rule(rule);
        change();
        now.rules.remove(rule);
        return now.rules.size();
    }

    public int undo() {
        if (past.isEmpty()) {
            return -1;
        }
        now = past.removeLast();
        rows = null;
        return past.size();
    }

    public int tableCount() {
        return now.widths.size();
    }

    public int columns(int table) {
        table(table);
        return now.widths.get(table);
    }

    public int factCount(int table) {
        table(table);
        return now.facts.get(table).size();
    }

    public int rowCount(int table) {
        table(table);
        return rows().get(table).size();
    }

    public boolean isFact(int table, int a, int b, int c) {
        table(table);
        return now.facts.get(table).contains(row(table, a, b, c));
    }

    public int reasons(int table, int a, int b, int c) {
        table(table);
        return reasonsOf(table, row(table, a, b, c));
    }

    private int reasonsOf(int table, int row) {
        int count = now.facts.get(table).contains(row) ? 1 : 0;
        for (Rule rule : now.rules) {
            if (rule.head.table == table && !idle(rule)) {
                for (int given : given(rule, rows())) {
                    count += given == row ? 1 : 0;
                }
            }
        }
        return count;
    }

    public int rowAt(int table, int row, int column) {
        table(table);
        there(row >= 0 && row < rows().get(table).size());
        there(column >= 0 && column < now.widths.get(table));
        return part(new ArrayList<>(rows().get(table)).get(row), column);
    }

    public int firstFrom(int table, int a, int b, int c) {
        table(table);
        int row = row(table, a, b, c);
        if (rows().get(table).ceiling(row) == null) {
            throw new NoSuchElementException();
        }
        return rows().get(table).headSet(row).size();
    }

    public int values(int table, int column) {
        table(table);
        there(column >= 0 && column < now.widths.get(table));
        Set<Integer> unlike = new HashSet<>();
        rows().get(table).forEach(row -> unlike.add(part(row, column)));
        return unlike.size();
    }

    public int lower(int table, int value) {
        table(table);
        right(value >= 0 && value <= 8);
        Integer row = rows().get(table).lower(100 * value);
        if (row == null) {
            throw new NoSuchElementException();
        }
        return part(row, 0);
    }

    public int atomCount(int query) {
        query(query);
        return now.queries.get(query).atoms.size();
    }

    public int answers(int query) {
        query(query);
        return answerList(query).size();
    }

    public int answerAt(int query, int answer, int variable) {
        query(query);
        there(variables(query).contains(variable));
        List<int[]> answers = answerList(query);
        there(answer >= 0 && answer < answers.size());
        return answers.get(answer)[variable];
    }

    public int seek(int query, int first, int second, int third, int fourth) {
        query(query);
        int[] from = {first, second, third, fourth};
        for (int value : from) {
            right(value >= 0 && value <= 7);
        }
        List<Integer> variables = variables(query);
        List<int[]> answers = answerList(query);
        for (int i = 0; i < answers.size(); i++) {
            int unlike = 0;
            for (int place = 0; place < variables.size() && unlike == 0; place++) {
                unlike = Integer.compare(answers.get(i)[variables.get(place)], from[place]);
            }
            if (unlike >= 0) {
                return i;
            }
        }
        throw new NoSuchElementException();
    }

    public int leaps(int query) {
        query(query);
        return variables(query).isEmpty() ? 0 : leapsFrom(query, 0, new int[] {-1, -1, -1, -1});
    }

    private int leapsFrom(int query, int place, int[] chosen) {
        int variable = variables(query).get(place);
        List<Atom> asked = new ArrayList<>();
        for (Atom atom : now.queries.get(query).atoms) {
            if (stands(variable, atom)) {
                asked.add(atom);
            }
        }
        int leaps = 0;
        int x = 0;
        int agreed = 0;
        for (int turn = 0; ; turn = (turn + 1) % asked.size()) {
            leaps++;
            int told = 9;
            for (int row : rows().get(asked.get(turn).table)) {
                int[] values = taken(asked.get(turn), row, chosen);
                if (values != null && values[variable] >= x) {
                    told = Math.min(told, values[variable]);
                }
            }
            if (told == 9) {
                return leaps;
            }
            agreed = told == x ? agreed + 1 : 1;
            x = told;
            if (agreed == asked.size()) {
                chosen[variable] = x;
                leaps += place + 1 < variables(query).size() ? leapsFrom(query, place + 1, chosen) : 0;
                chosen[variable] = -1;
                x++;
                agreed = 0;
            }
        }
    }

    /** The chosen values and those that a row adds to them; null if the row does not fit them. */
    private static int[] taken(Atom atom, int row, int[] chosen) {
        int[] values = chosen.clone();
        for (int column = 0; column < atom.variables.length; column++) {
            int variable = atom.variables[column];
            if (values[variable] >= 0 && values[variable] != part(row, column)) {
                return null;
            }
            values[variable] = part(row, column);
        }
        return values;
    }

    public int groups(int query, int variable) {
        query(query);
        there(variables(query).contains(variable));
        Set<Integer> unlike = new HashSet<>();
        answerList(query).forEach(answer -> unlike.add(answer[variable]));
        return unlike.size();
    }

    public int groupSize(int query, int variable, int value) {
        query(query);
        there(variables(query).contains(variable));
        right(value >= 0 && value <= 7);
        int count = 0;
        for (int[] answer : answerList(query)) {
            count += answer[variable] == value ? 1 : 0;
        }
        return count;
    }

    public int idleRows(int query, int atom) {
        Set<Integer> busy = busyRows(query, atom);
        int count = 0;
        for (int row : rows().get(now.queries.get(query).atoms.get(atom).table)) {
            count += busy.contains(row) ? 0 : 1;
        }
        return count;
    }

    /** A query is a tree if the heaviest tree over its atoms weighs all variables but one each. */
    public boolean isTree(int query) {
        query(query);
        List<Atom> atoms = now.queries.get(query).atoms;
        int need = -variables(query).size();
        for (Atom atom : atoms) {
            need += unlike(atom).size();
        }
        List<Atom> joined = new ArrayList<>();
        List<Atom> left = new ArrayList<>(atoms);
        if (!left.isEmpty()) {
            joined.add(left.remove(0));
        }
        int weight = 0;
        while (!left.isEmpty()) {
            int heaviest = -1;
            int next = 0;
            for (int i = 0; i < left.size(); i++) {
                for (Atom atom : joined) {
                    Set<Integer> common = unlike(left.get(i));
                    common.retainAll(unlike(atom));
                    if (common.size() > heaviest) {
                        heaviest = common.size();
                        next = i;
                    }
                }
            }
            weight += heaviest;
            joined.add(left.remove(next));
        }
        return weight == need;
    }

    public int cover(int query) {
        query(query);
        return weigh(query, new ArrayList<>())[0].intValue();
    }

    public long bound(int query) {
        query(query);
        return weigh(query, new ArrayList<>())[1].longValueExact();
    }

    private BigInteger[] weigh(int query, List<Integer> halves) {
        List<Atom> atoms = now.queries.get(query).atoms;
        BigInteger[] least = null;
        if (halves.size() < atoms.size()) {
            for (int half = 0; half < 3; half++) {
                halves.add(half);
                BigInteger[] weight = weigh(query, halves);
                halves.remove(halves.size() - 1);
                if (weight != null) {
                    least = least == null ? weight
                        : new BigInteger[] {least[0].min(weight[0]), least[1].min(weight[1])};
                }
            }
            return least;
        }
        for (int variable : variables(query)) {
            int sum = 0;
            for (int i = 0; i < atoms.size(); i++) {
                sum += stands(variable, atoms.get(i)) ? halves.get(i) : 0;
            }
            if (sum < 2) {
                return null;
            }
        }
        least = new BigInteger[] {BigInteger.ZERO, BigInteger.ONE};
        for (int i = 0; i < atoms.size(); i++) {
            int size = 0;
            for (int row : rows().get(atoms.get(i).table)) {
                size += taken(atoms.get(i), row, new int[] {-1, -1, -1, -1}) != null ? 1 : 0;
            }
            least[0] = least[0].add(BigInteger.valueOf(halves.get(i)));
            least[1] = least[1].multiply(BigInteger.valueOf(size).pow(halves.get(i)));
        }
        return least;
    }

    public int ruleCount() {
        return now.rules.size();
    }

    public boolean isIdle(int rule) {
        rule(rule);
        return idle(now.rules.get(rule));
    }

    private static boolean idle(Rule rule) {
        Set<Integer> needed = unlike(rule.head);
        Set<Integer> bound = new HashSet<>();
        for (Atom atom : rule.atoms) {
            (atom.isNot ? needed : bound).addAll(unlike(atom));
        }
        return rule.atoms.stream().allMatch(atom -> atom.isNot) || !bound.containsAll(needed);
    }

    public int layerOf(int table) {
        table(table);
        return layersOf(now)[table];
    }

    /** Tries all numbers for the layers; null if none fit. */
    private static int[] layersOf(State state) {
        int[] least = null;
        int tables = state.widths.size();
        int all = 1;
        for (int i = 0; i < tables; i++) {
            all *= tables;
        }
        for (int n = 0; n < all; n++) {
            int[] layers = new int[tables];
            for (int table = 0, rest = n; table < tables; table++, rest /= tables) {
                layers[table] = rest % tables;
            }
            boolean fits = true;
            for (Rule rule : state.rules) {
                for (Atom atom : rule.atoms) {
                    fits &= layers[rule.head.table] >= layers[atom.table] + (atom.isNot ? 1 : 0);
                }
            }
            for (int table = 0; fits && table < tables; table++) {
                least = least == null ? layers : least;
                least[table] = Math.min(least[table], layers[table]);
            }
        }
        return least;
    }

    public int rounds() {
        rows();
        return roundCount;
    }

    public int firings(int rule) {
        rule(rule);
        return idle(now.rules.get(rule)) ? 0 : given(now.rules.get(rule), rows()).size();
    }

    public double meanReasons() {
        double sum = 0;
        double count = 0;
        for (int table = 0; table < now.widths.size(); table++) {
            for (int row : rows().get(table)) {
                sum += reasonsOf(table, row);
                count++;
            }
        }
        return count == 0 ? 0.0 : sum / count;
    }

    public float factShare() {
        int facts = 0;
        int all = 0;
        for (int table = 0; table < now.widths.size(); table++) {
            facts += now.facts.get(table).size();
            all += rows().get(table).size();
        }
        return all == 0 ? 0.0f : (float) facts / (float) all;
    }

    public int errors() {
        return 0;
    }

    public int checksum() {
        int sum = 17;
        for (int table = 0; table < now.widths.size(); table++) {
            for (int row : rows().get(table)) {
                for (int column = 0; column < now.widths.get(table); column++) {
                    sum = sum * 31 + part(row, column);
                }
            }
        }
        for (int query = 0; query < 4; query++) {
            sum = sum * 31 + answerList(query).size();
        }
        return sum;
    }

    private static boolean stands(int variable, Atom atom) {
        return unlike(atom).contains(variable);
    }

    private static Set<Integer> unlike(Atom atom) {
        Set<Integer> unlike = new HashSet<>();
        for (int variable : atom.variables) {
            unlike.add(variable);
        }
        return unlike;
    }

    /** The variables of a query, in its order. */
    private List<Integer> variables(int query) {
        List<Integer> ordered = new ArrayList<>();
        for (char digit : String.format("%04d", now.queries.get(query).order).toCharArray()) {
            for (Atom atom : now.queries.get(query).atoms) {
                if (stands(digit - '0', atom) && !ordered.contains(digit - '0')) {
                    ordered.add(digit - '0');
                }
            }
        }
        return ordered;
    }

    private List<int[]> answerList(int query) {
        List<int[]> answers = new ArrayList<>();
        if (!now.queries.get(query).atoms.isEmpty()) {
            fit(now.queries.get(query).atoms, variables(query), 0, new int[] {-1, -1, -1, -1}, rows(), answers);
        }
        return answers;
    }

    /** Tries all values of the variables, the first one outermost, and keeps those with which all atoms fit. */
    private static void fit(List<Atom> atoms, List<Integer> variables, int place, int[] values,
            List<TreeSet<Integer>> rows, List<int[]> kept) {
        for (Atom atom : atoms) {
            boolean isWhole = unlike(atom).stream().allMatch(variable -> values[variable] >= 0);
            if (isWhole && !rows.get(atom.table).contains(rowMade(atom, values))) {
                return;
            }
        }
        if (place == variables.size()) {
            kept.add(values.clone());
            return;
        }
        for (int value = 0; value < 8; value++) {
            values[variables.get(place)] = value;
            fit(atoms, variables, place + 1, values, rows, kept);
        }
        values[variables.get(place)] = -1;
    }

    private static int rowMade(Atom atom, int[] values) {
        int row = 0;
        for (int column = 0; column < 3; column++) {
            row = 10 * row + (column < atom.variables.length ? values[atom.variables[column]] : 0);
        }
        return row;
    }

    /** The rows that a rule gives, one for each choice of values. */
    private static List<Integer> given(Rule rule, List<TreeSet<Integer>> rows) {
        List<Atom> with = rule.atoms.stream().filter(atom -> !atom.isNot).toList();
        Set<Integer> variables = new TreeSet<>();
        with.forEach(atom -> variables.addAll(unlike(atom)));
        List<int[]> choices = new ArrayList<>();
        fit(with, new ArrayList<>(variables), 0, new int[] {-1, -1, -1, -1}, rows, choices);
        List<Integer> given = new ArrayList<>();
        for (int[] values : choices) {
            if (rule.atoms.stream().noneMatch(a -> a.isNot && rows.get(a.table).contains(rowMade(a, values)))) {
                given.add(rowMade(rule.head, values));
            }
        }
        return given;
    }

    private List<TreeSet<Integer>> rows() {
        if (rows != null) {
            return rows;
        }
        List<TreeSet<Integer>> grown = copy(now).facts;
        roundCount = 0;
        int[] layers = layersOf(now);
        for (int layer = 0; layer < 5; layer++) {
            List<Rule> working = new ArrayList<>();
            for (Rule rule : now.rules) {
                if (!idle(rule) && layers[rule.head.table] == layer) {
                    working.add(rule);
                }
            }
            boolean grows = !working.isEmpty();
            while (grows) {
                roundCount++;
                List<List<Integer>> given = new ArrayList<>();
                working.forEach(rule -> given.add(given(rule, grown)));
                grows = false;
                for (int i = 0; i < given.size(); i++) {
                    grows |= grown.get(working.get(i).head.table).addAll(given.get(i));
                }
            }
        }
        rows = grown;
        return rows;
    }
}
