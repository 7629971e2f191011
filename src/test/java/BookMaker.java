import java.util.ArrayList;
import java.util.Collections;
import java.util.HashMap;
import java.util.List;
import java.util.Map;
import java.util.Random;

/** Makes books by a seeded generator: most are right, with right and wrong proofs in them; some are spoilt. */
final class BookMaker {
    private static final String[] CONSTANTS = {"t", "w", "|-", "(", ")", "->"};
    private static final String[] VARIABLES = {"a", "b", "c", "d", "e", "x", "y", "z"};
    private static final String[] STRAY = {"$c", "$v", "$f", "$e", "$d", "$a", "$p", "$=", "$.", "${", "$}", "$(", "$)",
        "$[", "$", "a", "b", "x", "t", "w", "s1", "s2", "s5", "!", "a$", "$($", "\u0007", "\u00e4", "zz", "(", ")", "?"};
    private final Random random;
    private final StringBuilder text = new StringBuilder();
    private int depth;
    private int labels;

    BookMaker(long seed) {
        random = new Random(seed);
    }

    private boolean chance(double p) {
        return random.nextDouble() < p;
    }

    private String any(String... all) {
        return all[random.nextInt(all.length)];
    }

    private void add(String token) {
        text.append(token).append(chance(0.97) ? ' ' : "\t\n\f\r".charAt(random.nextInt(4)));
        if (chance(0.01)) {
            text.append("$( a comment, $c and $p $) ");
        }
    }

    private void addAll(String row) {
        for (String token : row.split(" ")) {
            if (!token.isEmpty()) {
                add(token);
            }
        }
    }

    String make(int items) {
        text.setLength(0);
        depth = 0;
        labels = 0;
        addAll("$c t w |- ( ) -> $. $v a b c d $. fa $f t a $. fb $f t b $. fc $f w c $.");
        if (chance(0.7)) {
            addAll("s $a t ( a -> b ) $. j $a w a b $. v $a t $.");
        }
        for (int i = 0; i < items; i++) {
            addItem();
        }
        while (depth > 0) {
            add("$}");
            depth--;
        }
        return chance(0.35) ? spoil(text.toString()) : text.toString();
    }

    /** A book with one long compressed proof, which has many steps that are like one another. */
    String makeBig(int leaves) {
        StringBuilder big = new StringBuilder("$c t $. $v a b $. fa $f t a $. fb $f t b $. y $a t a b $. u $a t a $. ");
        StringBuilder list = new StringBuilder("( y u ");
        for (int i = 0; i < leaves; i++) {
            big.append('k').append(i).append(" $a t $. ");
            list.append('k').append(i).append(' ');
        }
        StringBuilder row = new StringBuilder();
        List<Integer> sizes = new ArrayList<>();
        List<Integer> marks = new ArrayList<>();
        int top = 0;
        for (int steps = 0; steps + sizes.size() < 990; steps++) {
            int open = sizes.size();
            if (open >= 2 && (open > 60 || chance(0.4))) {
                row.append('A');
                top = sizes.remove(open - 1) + sizes.remove(open - 2) + 1;
            } else if (open >= 1 && chance(0.2)) {
                row.append('B');
                top = sizes.remove(open - 1) + 1;
            } else if (!marks.isEmpty() && chance(0.1)) {
                int mark = random.nextInt(marks.size());
                row.append(letters(leaves + 3 + mark));
                top = marks.get(mark);
            } else {
                row.append(letters(3 + random.nextInt(leaves)));
                top = 1;
            }
            sizes.add(top);
            if (top < 30 && marks.size() < 200 && chance(0.05)) {
                row.append('Z');
                marks.add(top);
            }
        }
        for (int left = sizes.size(); left > 1; left--) {
            row.append('A');
        }
        return big + "p $p t $= " + list + ") " + row + " $.";
    }

    private void addItem() {
        double what = random.nextDouble();
        if (what < 0.10 && depth < 5) {
            add("${");
            depth++;
        } else if (what < 0.17 && depth > 0) {
            add("$}");
            depth--;
        } else if (what < 0.20) {
            addVariables();
        } else if (what < 0.28) {
            addDistinct();
        } else if (what < 0.33) {
            addFloating();
        } else {
            addStatement(what < 0.45 ? "$e" : what < 0.62 ? "$a" : "$p");
        }
    }

    /** What is active here, as the frame of a statement that would stand here. */
    private PlainBook.Statement here(PlainBook book) {
        book.feed(text + " zz.zz $p t $= $. " + "$} ".repeat(depth));
        int read = book.read();
        return read > 0 ? book.statements().get(read - 1) : null;
    }

    private boolean isActive(String variable, PlainBook.Statement here) {
        return here.activeVariables.contains(variable);
    }

    private void addVariables() {
        PlainBook.Statement here = here(new PlainBook());
        String variable = any(VARIABLES);
        if (here != null && !isActive(variable, here)) {
            addAll("$v " + variable + " $.");
        }
    }

    private List<String> typed(PlainBook.Statement here) {
        List<String> all = new ArrayList<>();
        for (PlainBook.Statement h : here.active) {
            if (h.kind == 'f') {
                all.add(h.symbols.get(1));
            }
        }
        return all;
    }

    private void addDistinct() {
        PlainBook.Statement here = here(new PlainBook());
        if (here == null || here.activeVariables.size() < 2) {
            return;
        }
        List<String> all = new ArrayList<>(here.activeVariables);
        Collections.sort(all);
        Collections.shuffle(all, random);
        int size = 2 + random.nextInt(Math.min(4, all.size() - 1));
        addAll("$d " + String.join(" ", all.subList(0, size)) + " $.");
    }

    private void addFloating() {
        PlainBook.Statement here = here(new PlainBook());
        String variable = any(VARIABLES);
        if (here != null && isActive(variable, here) && !typed(here).contains(variable)) {
            addAll(label() + " $f " + any("t", "w") + " " + variable + " $.");
        }
    }

    private String label() {
        labels++;
        return any("s", "S-", "q_", "r.") + labels;
    }

    private void addStatement(String kind) {
        PlainBook book = new PlainBook();
        PlainBook.Statement here = here(book);
        if (here == null) {
            return;
        }
        if (kind.equals("$p")) {
            addProof(book, here);
            return;
        }
        List<String> typed = typed(here);
        StringBuilder row = new StringBuilder(label() + " " + kind + " " + any("t", "w", "|-") + " ");
        int size = random.nextInt(5);
        for (int i = 0; i < size; i++) {
            boolean variable = !typed.isEmpty() && chance(0.65);
            row.append(variable ? typed.get(random.nextInt(typed.size())) : any(CONSTANTS)).append(' ');
        }
        addAll(row + "$.");
    }

    private void addProof(PlainBook book, PlainBook.Statement here) {
        PlainBook.Tree tree = grow(book, here);
        if (tree == null || tree.made.size() > 60) {
            return;
        }
        String label = label();
        String head = label + " $p " + String.join(" ", tree.made) + " $= ";
        String proof;
        if (chance(0.5)) {
            List<String> written = new ArrayList<>();
            tree.write(written);
            if (written.size() > 300) {
                return;
            }
            proof = String.join(" ", written);
        } else {
            book.feed(text + " " + head + "$. " + "$} ".repeat(depth));
            int read = book.read();
            if (read <= 0) {
                return;
            }
            proof = new Compressor(book.statements().get(read - 1)).compress(tree);
        }
        addAll(head + (chance(0.3) ? spoilProof(proof) : proof) + " $.");
    }

    /** A random proof: steps that fit are done till one thing is left. */
    private PlainBook.Tree grow(PlainBook book, PlainBook.Statement here) {
        List<PlainBook.Statement> all = book.statements().subList(0, here.number);
        List<PlainBook.Tree> things = new ArrayList<>();
        List<PlainBook.Tree> made = new ArrayList<>();
        int goal = 1 + random.nextInt(25);
        for (int turn = 0; turn < 400; turn++) {
            if (made.size() >= goal && things.size() == 1) {
                return things.get(0);
            }
            if (chance(0.1) && !made.isEmpty() && made.size() < goal) {
                things.add(made.get(random.nextInt(made.size())));
                continue;
            }
            PlainBook.Statement s = all.get(random.nextInt(all.size()));
            boolean hypothesis = s.kind == 'f' || s.kind == 'e';
            if (hypothesis && (!here.active.contains(s) || made.size() >= goal && chance(0.9))) {
                continue;
            }
            List<PlainBook.Tree> copy = new ArrayList<>(things);
            try {
                PlainBook.Tree tree = book.apply(here, s, copy, 0);
                if (tree.made.size() <= 60 && copy.size() < 40) {
                    copy.add(tree);
                    things = copy;
                    made.add(tree);
                }
            } catch (PlainBook.Fault fault) {
                if (fault.number == 7 && chance(0.05)) {
                    PlainBook.Tree wrong = new PlainBook.Tree();
                    wrong.named = s;
                    wrong.taken.addAll(things.subList(things.size() - s.hypotheses.size(), things.size()));
                    wrong.made = s.symbols;
                    return wrong;
                }
            }
        }
        return things.isEmpty() ? null : things.get(things.size() - 1);
    }

    /** Some compressed form of a tree, with marks wherever it likes. */
    private final class Compressor {
        private final Map<String, Integer> numbers = new HashMap<>();
        private final Map<String, Integer> marks = new HashMap<>();
        private final StringBuilder row = new StringBuilder();
        private int steps;

        Compressor(PlainBook.Statement p) {
            p.hypotheses.forEach(h -> numbers.put(h.label, numbers.size() + 1));
        }

        String compress(PlainBook.Tree tree) {
            List<String> written = new ArrayList<>();
            tree.write(written);
            List<String> list = new ArrayList<>();
            for (String label : written) {
                if (!numbers.containsKey(label) && !list.contains(label)) {
                    list.add(label);
                }
            }
            Collections.shuffle(list, random);
            list.forEach(label -> numbers.put(label, numbers.size() + 1));
            write(tree);
            return "( " + String.join(" ", list) + (list.isEmpty() ? ") " : " ) ") + row;
        }

        private void write(PlainBook.Tree tree) {
            steps++;
            if (steps > 900) {
                return;
            }
            if (marks.containsKey(tree.shape()) && chance(0.8)) {
                row.append(letters(marks.get(tree.shape())));
            } else {
                tree.taken.forEach(this::write);
                row.append(letters(numbers.get(tree.named.label)));
            }
            if (chance(0.25)) {
                row.append('Z');
                marks.put(tree.shape(), numbers.size() + 1);
                numbers.put("Z " + numbers.size(), 0);
            }
            if (chance(0.02)) {
                row.append(' ');
            }
        }
    }

    static String letters(int number) {
        StringBuilder all = new StringBuilder().append((char) ('A' + (number - 1) % 20));
        for (int left = (number - 1) / 20; left > 0; left = (left - 1) / 5) {
            all.insert(0, (char) ('U' + (left - 1) % 5));
        }
        return all.toString();
    }

    private String spoilProof(String proof) {
        List<String> tokens = new ArrayList<>(List.of(proof.split(" ")));
        int times = 1 + random.nextInt(2);
        for (int i = 0; i < times && !tokens.isEmpty(); i++) {
            int at = random.nextInt(tokens.size());
            switch (random.nextInt(7)) {
                case 0:
                    tokens.remove(at);
                    break;
                case 1:
                    tokens.add(at, any("fa", "fb", "s", "j", "s1", "S-2", "q_3", "?", "(", ")", "zz", "a?"));
                    break;
                case 2:
                    tokens.set(at, tokens.get(random.nextInt(tokens.size())));
                    break;
                case 3:
                    tokens.add(at, tokens.get(at));
                    break;
                default:
                    int last = tokens.size() - 1;
                    StringBuilder row = new StringBuilder(tokens.get(last));
                    row.insert(random.nextInt(row.length() + 1), any("A", "B", "C", "D", "E", "U", "V", "Y", "Z", "Z", "?",
                        "a", "1", "UA"));
                    if (chance(0.4)) {
                        row.deleteCharAt(random.nextInt(row.length()));
                    }
                    tokens.set(last, row.toString());
            }
        }
        return String.join(" ", tokens);
    }

    private String spoil(String right) {
        List<String> tokens = new ArrayList<>(List.of(right.trim().split("[ \t\n\f\r]+")));
        int times = 1 + random.nextInt(3);
        for (int i = 0; i < times && tokens.size() > 1; i++) {
            int at = chance(0.5) ? random.nextInt(tokens.size()) : tokens.size() - 1 - random.nextInt(tokens.size()) / 4;
            switch (random.nextInt(6)) {
                case 0:
                    tokens.remove(at);
                    break;
                case 1:
                    tokens.add(at, any(STRAY));
                    break;
                case 2:
                    tokens.set(at, any(STRAY));
                    break;
                case 3:
                    tokens.set(at, tokens.get(random.nextInt(tokens.size())));
                    break;
                case 4:
                    tokens.add(at, tokens.get(random.nextInt(tokens.size())));
                    break;
                default:
                    tokens = new ArrayList<>(tokens.subList(0, at));
            }
        }
        return String.join(" ", tokens) + (chance(0.3) ? " " : "");
    }
}
