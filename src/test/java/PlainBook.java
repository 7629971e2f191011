import java.math.BigInteger;
import java.util.ArrayList;
import java.util.HashMap;
import java.util.HashSet;
import java.util.IdentityHashMap;
import java.util.LinkedHashMap;
import java.util.List;
import java.util.Map;
import java.util.Set;
import java.util.TreeSet;

/** The document once more, as plainly as the whole of Java allows, to hold AxiomBook against. */
final class PlainBook {
    static final class Token {
        String text;
        int place;
    }

    static final class Statement {
        String label;
        char kind;
        int number;
        int depth;
        List<String> symbols = new ArrayList<>();
        List<String> proof = new ArrayList<>();
        List<Statement> hypotheses = new ArrayList<>();
        List<Set<String>> distinct = new ArrayList<>();
        Set<Set<String>> activePairs = new HashSet<>();
        List<Statement> active = new ArrayList<>();
        Set<String> activeVariables = new HashSet<>();
    }

    static final class Block {
        Set<String> variables = new HashSet<>();
        List<Statement> hypotheses = new ArrayList<>();
        Set<Set<String>> pairs = new HashSet<>();
    }

    static final class Fault extends Exception {
        private static final long serialVersionUID = 1L;
        final int number;
        final int place;

        Fault(int number, int place) {
            super(null, null, false, false);
            this.number = number;
            this.place = place;
        }
    }

    /** A step with those that made what it took. */
    static final class Tree {
        Statement named;
        List<Tree> taken = new ArrayList<>();
        List<String> made;

        String shape() {
            StringBuilder all = new StringBuilder(named.label);
            for (Tree one : taken) {
                all.append('(').append(one.shape()).append(')');
            }
            return all.toString();
        }

        void write(List<String> out) {
            for (Tree one : taken) {
                if (out.size() <= 1000) {
                    one.write(out);
                }
            }
            out.add(named.label);
        }
    }

    private String text = "";
    private List<String> symbols = new ArrayList<>();
    private Set<String> constants = new HashSet<>();
    private List<Statement> statements = new ArrayList<>();
    private int place;
    private int step;
    private String out = "";
    private List<Tree> stack = new ArrayList<>();

    List<Statement> statements() {
        return statements;
    }

    void feed(String more) {
        text += more;
    }

    int place() {
        return place;
    }

    int step() {
        return step;
    }

    int read() {
        List<String> oldSymbols = symbols;
        Set<String> oldConstants = constants;
        List<Statement> oldStatements = statements;
        String whole = text;
        text = "";
        step = 0;
        out = "";
        stack = new ArrayList<>();
        symbols = new ArrayList<>();
        constants = new HashSet<>();
        statements = new ArrayList<>();
        try {
            new Parser(whole).book();
            place = whole.length();
            return statements.size();
        } catch (Fault fault) {
            symbols = oldSymbols;
            constants = oldConstants;
            statements = oldStatements;
            place = fault.place;
            return -fault.number;
        }
    }

    /** By descent: each construct of the grammar is a method. */
    private final class Parser {
        private final String whole;
        private int at;
        private final List<Block> blocks = new ArrayList<>(List.of(new Block()));

        Parser(String whole) {
            this.whole = whole;
        }

        private Token cut() throws Fault {
            while (at < whole.length() && "\t\n\f\r ".indexOf(whole.charAt(at)) >= 0) {
                at++;
            }
            if (at == whole.length()) {
                return null;
            }
            Token token = new Token();
            token.place = at;
            while (at < whole.length() && "\t\n\f\r ".indexOf(whole.charAt(at)) < 0) {
                at++;
            }
            token.text = whole.substring(token.place, at);
            if (token.text.chars().anyMatch(c -> c < 33 || c > 126)) {
                throw new Fault(1, token.place);
            }
            return token;
        }

        private Token next() throws Fault {
            Token token = cut();
            while (token != null && token.text.equals("$(")) {
                for (token = cut(); token == null || !token.text.equals("$)"); token = cut()) {
                    if (token == null) {
                        throw new Fault(2, whole.length());
                    }
                    if (token.text.contains("$(") || token.text.contains("$)")) {
                        throw new Fault(3, token.place);
                    }
                }
                token = cut();
            }
            return token;
        }

        private Token need() throws Fault {
            Token token = next();
            if (token == null) {
                throw new Fault(2, whole.length());
            }
            return token;
        }

        private void no(boolean wrong, int fault, Token token) throws Fault {
            if (wrong) {
                throw new Fault(fault, token.place);
            }
        }

        private boolean plain(Token token) {
            return !token.text.contains("$");
        }

        private Statement labelled(String label) {
            return statements.stream().filter(s -> s.label.equals(label)).findFirst().orElse(null);
        }

        private boolean activeVariable(String name) {
            return blocks.stream().anyMatch(b -> b.variables.contains(name));
        }

        private boolean typed(String name) {
            return active().stream().anyMatch(h -> h.kind == 'f' && h.symbols.get(1).equals(name));
        }

        private List<Statement> active() {
            List<Statement> all = new ArrayList<>();
            blocks.forEach(b -> all.addAll(b.hypotheses));
            all.sort((p, q) -> p.number - q.number);
            return all;
        }

        private Set<Set<String>> pairs() {
            Set<Set<String>> all = new HashSet<>();
            blocks.forEach(b -> all.addAll(b.pairs));
            return all;
        }

        void book() throws Fault {
            for (Token token = next(); token != null; token = next()) {
                item(token);
            }
            if (blocks.size() > 1) {
                throw new Fault(2, whole.length());
            }
        }

        private void item(Token token) throws Fault {
            if (plain(token)) {
                statement(token);
            } else if (token.text.equals("$c")) {
                no(blocks.size() > 1, 3, token);
                declare(true);
            } else if (token.text.equals("$v")) {
                declare(false);
            } else if (token.text.equals("$d")) {
                apart();
            } else if (token.text.equals("${")) {
                no(blocks.size() == 17, 7, token);
                blocks.add(new Block());
            } else {
                no(!token.text.equals("$}") || blocks.size() == 1, 3, token);
                blocks.remove(blocks.size() - 1);
            }
        }

        private void declare(boolean constant) throws Fault {
            int n = 0;
            for (Token token = need(); !token.text.equals("$.") || n == 0; token = need(), n++) {
                no(!plain(token), 3, token);
                String name = token.text;
                no(!symbols.contains(name) && symbols.size() == 300, 7, token);
                no(constants.contains(name) || activeVariable(name) || labelled(name) != null, 5, token);
                no(constant && symbols.contains(name), 5, token);
                if (!symbols.contains(name)) {
                    symbols.add(name);
                }
                (constant ? constants : blocks.get(blocks.size() - 1).variables).add(name);
            }
        }

        private void apart() throws Fault {
            List<String> row = new ArrayList<>();
            for (Token token = need(); !token.text.equals("$.") || row.size() < 2; token = need()) {
                no(!plain(token), 3, token);
                no(row.size() == 8, 7, token);
                no(!activeVariable(token.text) || row.contains(token.text), 6, token);
                for (String other : row) {
                    Set<String> pair = Set.of(other, token.text);
                    if (!pairs().contains(pair)) {
                        blocks.get(blocks.size() - 1).pairs.add(pair);
                    }
                }
                no(pairs().size() > 200, 7, token);
                row.add(token.text);
            }
        }

        private void statement(Token label) throws Fault {
            no(statements.size() == 200, 7, label);
            no(!label.text.matches("[A-Za-z0-9._-]+"), 4, label);
            no(labelled(label.text) != null || symbols.contains(label.text), 4, label);
            Token word = need();
            no(!word.text.matches("\\$[feap]"), 3, word);
            Statement made = new Statement();
            made.label = label.text;
            made.kind = word.text.charAt(1);
            made.number = statements.size();
            made.depth = blocks.size() - 1;
            Token token = need();
            for (; plain(token); token = need()) {
                no(made.kind == 'f' && made.symbols.size() == 2, 3, token);
                no(made.symbols.size() == 60, 7, token);
                no(!mayStand(made, token.text), 6, token);
                made.symbols.add(token.text);
            }
            no(!token.text.equals(made.kind == 'p' ? "$=" : "$."), 3, token);
            no(made.symbols.size() < (made.kind == 'f' ? 2 : 1), 3, token);
            if (made.kind == 'p') {
                for (token = need(); !token.text.equals("$."); token = need()) {
                    no(!plain(token), 3, token);
                    no(made.proof.size() == 400, 7, token);
                    made.proof.add(token.text);
                }
            }
            finish(made);
        }

        private boolean mayStand(Statement made, String name) {
            if (made.symbols.isEmpty()) {
                return constants.contains(name);
            }
            if (made.kind == 'f') {
                return activeVariable(name) && !typed(name);
            }
            return constants.contains(name) || activeVariable(name) && typed(name);
        }

        private void finish(Statement made) {
            statements.add(made);
            if (made.kind == 'f' || made.kind == 'e') {
                blocks.get(blocks.size() - 1).hypotheses.add(made);
                return;
            }
            made.active = active();
            made.activePairs = pairs();
            blocks.forEach(b -> made.activeVariables.addAll(b.variables));
            Set<String> mandatory = new HashSet<>(made.symbols);
            made.active.stream().filter(h -> h.kind == 'e').forEach(h -> mandatory.addAll(h.symbols));
            mandatory.removeAll(constants);
            for (Statement h : made.active) {
                if (h.kind == 'e' || mandatory.contains(h.symbols.get(1))) {
                    made.hypotheses.add(h);
                }
            }
            for (Set<String> pair : made.activePairs) {
                if (mandatory.containsAll(pair)) {
                    made.distinct.add(pair);
                }
            }
            made.distinct.sort((p, q) -> lesser(p) != lesser(q) ? lesser(p) - lesser(q) : greater(p) - greater(q));
        }
    }

    private int lesser(Set<String> pair) {
        return pair.stream().mapToInt(symbols::indexOf).min().orElse(-1);
    }

    private int greater(Set<String> pair) {
        return pair.stream().mapToInt(symbols::indexOf).max().orElse(-1);
    }

    private Statement at(int k) {
        return k >= 0 && k < statements.size() ? statements.get(k) : null;
    }

    private Statement provable(int k) {
        return at(k) != null && at(k).kind == 'p' ? at(k) : null;
    }

    int count(int what) {
        int[] all = {symbols.size(), statements.size(), text.length(), out.length(), stack.size()};
        return what >= 0 && what < 5 ? all[what] : -1;
    }

    int statement(int k, int what) {
        Statement s = at(k);
        if (s == null || what < 0 || what > 5) {
            return -1;
        }
        return new int[] {"feap".indexOf(s.kind), s.symbols.size(), s.depth, s.hypotheses.size(), s.distinct.size(),
            s.proof.size()}[what];
    }

    int symbol(int k, int i) {
        Statement s = at(k);
        return s != null && i >= 0 && i < s.symbols.size() ? symbols.indexOf(s.symbols.get(i)) : -1;
    }

    int name(int kind, int number, int i) {
        String name = null;
        if (kind == 0 && number >= 0 && number < symbols.size()) {
            name = symbols.get(number);
        } else if (kind == 1 && at(number) != null) {
            name = at(number).label;
        }
        return name != null && i >= 0 && i < name.length() ? name.charAt(i) : -1;
    }

    int frame(int k, int what, int i) {
        Statement s = at(k);
        if (s == null || s.kind == 'f' || s.kind == 'e' || what < 0 || what > 2) {
            return -1;
        }
        if (i < 0 || i >= (what == 0 ? s.hypotheses.size() : s.distinct.size())) {
            return -2;
        }
        return what == 0 ? s.hypotheses.get(i).number
            : what == 1 ? lesser(s.distinct.get(i)) : greater(s.distinct.get(i));
    }

    private static boolean compressed(Statement p) {
        return !p.proof.isEmpty() && p.proof.get(0).equals("(");
    }

    private static String letters(Statement p) {
        return String.join("", p.proof.subList(p.proof.indexOf(")") + 1, p.proof.size()));
    }

    private static boolean open(Statement p) {
        return p.proof.contains("?") || compressed(p) && p.proof.contains(")") && letters(p).contains("?");
    }

    private Statement named(Statement p, String label, int token) throws Fault {
        for (Statement s : statements.subList(0, p.number)) {
            if (s.label.equals(label) && (s.kind == 'a' || s.kind == 'p' || p.active.contains(s))) {
                return s;
            }
        }
        throw new Fault(2, token);
    }

    /** Steps: a Statement, or the number of the step that is marked; what is marked is in marks. */
    private List<Object> steps(Statement p) throws Fault {
        List<Object> steps = new ArrayList<>();
        if (p.proof.isEmpty()) {
            throw new Fault(1, 0);
        }
        if (!compressed(p)) {
            for (int i = 0; i < p.proof.size(); i++) {
                steps.add(named(p, p.proof.get(i), i));
            }
            return steps;
        }
        List<Object> known = new ArrayList<>(p.hypotheses);
        int i = 1;
        for (; i < p.proof.size() && !p.proof.get(i).equals(")"); i++) {
            Statement s = named(p, p.proof.get(i), i);
            if (known.contains(s)) {
                throw new Fault(2, i);
            }
            known.add(s);
        }
        if (i == p.proof.size()) {
            throw new Fault(3, i);
        }
        String row = letters(p);
        int unmarked = known.size();
        BigInteger prefix = BigInteger.ZERO;
        for (int b = 0; b < row.length(); b++) {
            char c = row.charAt(b);
            if (c >= 'U' && c <= 'Y') {
                prefix = prefix.multiply(BigInteger.valueOf(5)).add(BigInteger.valueOf(c - 'U' + 1));
            } else if (c >= 'A' && c <= 'T') {
                BigInteger number = prefix.multiply(BigInteger.valueOf(20))
                    .add(BigInteger.valueOf(c - 'A' + 1));
                if (number.compareTo(BigInteger.valueOf(known.size())) > 0) {
                    throw new Fault(3, b);
                }
                if (steps.size() == 1000) {
                    throw new Fault(10, b);
                }
                steps.add(known.get(number.intValue() - 1));
                prefix = BigInteger.ZERO;
            } else {
                if (c != 'Z' || b == 0 || row.charAt(b - 1) < 'A' || row.charAt(b - 1) > 'T') {
                    throw new Fault(3, b);
                }
                if (known.size() - unmarked == 200) {
                    throw new Fault(10, b);
                }
                known.add(steps.size() - 1);
            }
        }
        if (prefix.signum() != 0 || row.isEmpty()) {
            throw new Fault(3, row.length());
        }
        return steps;
    }

    private List<String> put(List<String> row, Map<String, List<String>> standing) {
        List<String> made = new ArrayList<>();
        for (String s : row) {
            if (standing.containsKey(s)) {
                made.addAll(standing.get(s));
            } else {
                made.add(s);
            }
        }
        return made;
    }

    Tree apply(Statement p, Statement s, List<Tree> things, int step) throws Fault {
        Tree tree = new Tree();
        tree.named = s;
        if (s.kind == 'f' || s.kind == 'e') {
            tree.made = s.symbols;
            return tree;
        }
        int n = s.hypotheses.size();
        if (things.size() < n) {
            throw new Fault(4, step);
        }
        List<Tree> top = things.subList(things.size() - n, things.size());
        tree.taken.addAll(top);
        top.clear();
        Map<String, List<String>> standing = new HashMap<>();
        for (int i = 0; i < n; i++) {
            Statement h = s.hypotheses.get(i);
            List<String> given = tree.taken.get(i).made;
            if (h.kind == 'f') {
                if (!given.get(0).equals(h.symbols.get(0))) {
                    throw new Fault(5, step);
                }
                standing.put(h.symbols.get(1), given.subList(1, given.size()));
            } else if (!given.equals(put(h.symbols, standing))) {
                throw new Fault(6, step);
            }
        }
        for (Set<String> pair : s.distinct) {
            String[] two = pair.toArray(new String[0]);
            for (String u : standing.get(two[0])) {
                for (String v : standing.get(two[1])) {
                    boolean both = !constants.contains(u) && !constants.contains(v);
                    if (both && (u.equals(v) || !p.activePairs.contains(Set.of(u, v)))) {
                        throw new Fault(7, step);
                    }
                }
            }
        }
        tree.made = put(s.symbols, standing);
        return tree;
    }

    private List<Tree> run(Statement p, List<Object> steps, int most) throws Fault {
        List<Tree> things = new ArrayList<>();
        List<Tree> made = new ArrayList<>();
        for (int i = 0; i < steps.size() && i < most; i++) {
            Tree tree = steps.get(i) instanceof Integer ? made.get((Integer) steps.get(i))
                : apply(p, (Statement) steps.get(i), things, i);
            if (things.size() == 100 || tree.made.size() > 200) {
                throw new Fault(10, i);
            }
            things.add(tree);
            made.add(tree);
        }
        return things;
    }

    private Tree prove(Statement p) throws Fault {
        List<Object> steps = steps(p);
        List<Tree> things = run(p, steps, 1000);
        if (things.size() != 1) {
            throw new Fault(8, steps.size());
        }
        if (!things.get(0).made.equals(p.symbols)) {
            throw new Fault(9, steps.size());
        }
        return things.get(0);
    }

    int check(int k) {
        Statement p = provable(k);
        step = 0;
        if (p == null) {
            return -1;
        }
        if (open(p)) {
            return 1;
        }
        try {
            prove(p);
            step = steps(p).size();
            return 0;
        } catch (Fault fault) {
            step = fault.place;
            return -100 - fault.number;
        }
    }

    int trace(int k, int n) {
        Statement p = provable(k);
        step = 0;
        stack = new ArrayList<>();
        if (p == null || n < 0) {
            return -1;
        }
        if (open(p)) {
            return -9;
        }
        try {
            List<Object> steps = steps(p);
            stack = run(p, steps, n == Integer.MAX_VALUE ? n : n + 1);
            step = steps.size();
            return stack.size();
        } catch (Fault fault) {
            step = fault.place;
            return -100 - fault.number;
        }
    }

    int thing(int d, int i) {
        if (d < 0 || d >= stack.size()) {
            return -1;
        }
        List<String> made = stack.get(stack.size() - 1 - d).made;
        return i == -1 ? made.size() : i >= 0 && i < made.size() ? symbols.indexOf(made.get(i)) : -1;
    }

    int tell(int k, int form) {
        Statement p = provable(k);
        if (p == null || form < 0 || form > 1) {
            return -1;
        }
        Tree tree;
        try {
            if (open(p)) {
                return -2;
            }
            tree = prove(p);
        } catch (Fault fault) {
            return -2;
        }
        String told;
        if (form == 0) {
            List<String> labels = new ArrayList<>();
            tree.write(labels);
            if (labels.size() > 1000) {
                return -3;
            }
            told = String.join(" ", labels);
        } else {
            told = new Packer(p).pack(tree);
        }
        if (told.length() > 6000) {
            return -3;
        }
        out = told;
        return out.length();
    }

    /** First the steps as they are told, then which of them others are like, then the numbers. */
    private static final class Packer {
        private final Statement p;
        private final Map<String, Integer> times = new HashMap<>();
        private final Map<Tree, String> shapes = new IdentityHashMap<>();
        private final Map<String, Integer> numbers = new LinkedHashMap<>();
        private final Map<String, Integer> marks = new HashMap<>();
        private final StringBuilder list = new StringBuilder("( ");
        private final StringBuilder row = new StringBuilder();

        Packer(Statement p) {
            this.p = p;
        }

        private String shape(Tree tree) {
            String known = shapes.get(tree);
            if (known == null) {
                known = tree.shape();
                shapes.put(tree, known);
            }
            return known;
        }

        String pack(Tree root) {
            p.hypotheses.forEach(h -> numbers.put(h.label, numbers.size() + 1));
            look(root, new HashSet<>());
            write(root);
            return list.append(") ").append(row).toString();
        }

        private void look(Tree tree, Set<String> seen) {
            times.merge(shape(tree), 1, Integer::sum);
            if (!tree.taken.isEmpty() && !seen.add(shape(tree))) {
                return;
            }
            tree.taken.forEach(one -> look(one, seen));
            if (!numbers.containsKey(tree.named.label)) {
                numbers.put(tree.named.label, numbers.size() + 1);
                list.append(tree.named.label).append(' ');
            }
        }

        private void write(Tree tree) {
            if (!tree.taken.isEmpty() && marks.containsKey(shape(tree))) {
                number(marks.get(shape(tree)));
                return;
            }
            tree.taken.forEach(this::write);
            number(numbers.get(tree.named.label));
            if (!tree.taken.isEmpty() && times.get(shape(tree)) > 1) {
                row.append('Z');
                marks.put(shape(tree), numbers.size() + marks.size() + 1);
            }
        }

        private void number(int number) {
            // By looking for it: which letters make this number.
            String prefix = "";
            int value = 0;
            for (int p5 = 1; value * 20 + 20 < number; p5++) {
                prefix = "";
                value = p5;
                for (int left = p5; left > 0; left = (left - 1) / 5) {
                    prefix = (char) ('U' + (left - 1) % 5) + prefix;
                }
            }
            row.append(prefix).append((char) ('A' + number - value * 20 - 1));
        }
    }

    int print(int k) {
        Statement s = at(k);
        if (s == null) {
            return -1;
        }
        String told = s.label + " $" + s.kind + " " + String.join(" ", s.symbols) + " $.";
        if (told.length() > 6000) {
            return -3;
        }
        out = told;
        return out.length();
    }

    int out(int i) {
        return i >= 0 && i < out.length() ? out.charAt(i) : -1;
    }

    private void rest(Statement p, Set<Integer> all) {
        List<String> names = p.proof;
        if (compressed(p) && names.contains(")")) {
            names = names.subList(0, names.indexOf(")"));
        }
        for (Statement s : statements.subList(0, p.number)) {
            if (names.contains(s.label)) {
                if (s.kind == 'a') {
                    all.add(s.number);
                } else if (s.kind == 'p') {
                    rest(s, all);
                }
            }
        }
    }

    int rests(int k, int i) {
        Statement p = provable(k);
        if (p == null) {
            return -1;
        }
        Set<Integer> all = new TreeSet<>();
        rest(p, all);
        return i >= 0 && i < all.size() ? new ArrayList<>(all).get(i) : -2;
    }

    int find() {
        String label = text;
        text = "";
        return statements.stream().filter(s -> s.label.equals(label)).mapToInt(s -> s.number).findFirst().orElse(-2);
    }
}
