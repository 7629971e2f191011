/** Promises 6, 7, 8, 9, 15, 16, 18: statements, symbols, names, frames, printing and finding. */
public final class BookTest {
    private static final String TEXT = "$c wff |- -> $. $v p q r s $. $d p q $. wp $f wff p $. wr $f wff r $. "
        + "wq $f wff q $. ${ $d s q r p $. ws $f wff s $. ${ e1 $e |- p $. ${ e2 $e |- s -> $. a1 $a |- q $. $} "
        + "a2 $p |- -> $= ( a1 ) A B? $. $} a3 $a |- s q q $. $} a4 $a |- p q r $. a5 $a |- $. a6 $a |- r p $.";

    public static void main(String[] args) {
        Due due = new Due();
        due.book(TEXT, 12);
        statements(due);
        symbols(due);
        names(due);
        frames(due);
        printing(due);
        longPrints(due);
        finding(due);
        pairsOfBlocks(due);
        nearLabels(due);
        due.end();
    }

    private static void statements(Due due) {
        int[][] all = {{0, 2, 0, 0, 0, 0}, {0, 2, 0, 0, 0, 0}, {0, 2, 0, 0, 0, 0}, {0, 2, 1, 0, 0, 0},
            {1, 2, 2, 0, 0, 0}, {1, 3, 3, 0, 0, 0}, {2, 2, 3, 5, 3, 0}, {3, 2, 2, 2, 0, 5}, {2, 4, 1, 2, 1, 0},
            {2, 4, 0, 3, 1, 0}, {2, 1, 0, 0, 0, 0}, {2, 3, 0, 2, 0, 0}};
        for (int k = 0; k < all.length; k++) {
            for (int what = 0; what < 6; what++) {
                due.is("statement(" + k + ", " + what + ")", due.x.statement(k, what), all[k][what]);
            }
            due.is("statement(" + k + ", 6)", due.x.statement(k, 6), -1);
            due.is("statement(" + k + ", -1)", due.x.statement(k, -1), -1);
        }
        due.is("statement(12, 0)", due.x.statement(12, 0), -1);
        due.is("statement(-1, 0)", due.x.statement(-1, 0), -1);
    }

    private static void symbols(Due due) {
        int[] row = {1, 6, 4, 4};
        for (int i = 0; i < 4; i++) {
            due.is("symbol(8, " + i + ")", due.x.symbol(8, i), row[i]);
        }
        due.is("symbol(8, 4)", due.x.symbol(8, 4), -1);
        due.is("symbol(8, -1)", due.x.symbol(8, -1), -1);
        due.is("symbol(12, 0)", due.x.symbol(12, 0), -1);
        due.is("symbol(-1, 0)", due.x.symbol(-1, 0), -1);
        due.is("symbol(7, 1)", due.x.symbol(7, 1), 2);
    }

    private static void names(Due due) {
        due.is("name of symbol 0", due.name(0, 0), "wff");
        due.is("name of symbol 2", due.name(0, 2), "->");
        due.is("name of symbol 6", due.name(0, 6), "s");
        due.is("name(0, 7, 0)", due.x.name(0, 7, 0), -1);
        due.is("name(0, -1, 0)", due.x.name(0, -1, 0), -1);
        due.is("name(0, 0, 3)", due.x.name(0, 0, 3), -1);
        due.is("name(0, 0, -1)", due.x.name(0, 0, -1), -1);
        due.is("label of 0", due.name(1, 0), "wp");
        due.is("label of 11", due.name(1, 11), "a6");
        due.is("name(1, 12, 0)", due.x.name(1, 12, 0), -1);
        due.is("name(1, -1, 0)", due.x.name(1, -1, 0), -1);
        due.is("name(1, 0, 2)", due.x.name(1, 0, 2), -1);
        due.is("name(2, 0, 0)", due.x.name(2, 0, 0), -1);
        due.is("name(-1, 0, 0)", due.x.name(-1, 0, 0), -1);
    }

    private static void frame(Due due, int k, int what, int... row) {
        for (int i = 0; i < row.length; i++) {
            due.is("frame(" + k + ", " + what + ", " + i + ")", due.x.frame(k, what, i), row[i]);
        }
        due.is("frame(" + k + ", " + what + ", end)", due.x.frame(k, what, row.length), -2);
        due.is("frame(" + k + ", " + what + ", -1)", due.x.frame(k, what, -1), -2);
        due.is("frame(" + k + ", " + what + ", great)", due.x.frame(k, what, Integer.MAX_VALUE), -2);
    }

    private static void frames(Due due) {
        frame(due, 6, 0, 0, 2, 3, 4, 5);
        frame(due, 6, 1, 3, 3, 4);
        frame(due, 6, 2, 4, 6, 6);
        frame(due, 7, 0, 0, 4);
        frame(due, 7, 1);
        frame(due, 8, 0, 2, 3);
        frame(due, 8, 1, 4);
        frame(due, 8, 2, 6);
        frame(due, 9, 0, 0, 1, 2);
        frame(due, 9, 1, 3);
        frame(due, 9, 2, 4);
        frame(due, 10, 0);
        frame(due, 10, 2);
        frame(due, 11, 0, 0, 1);
        due.is("frame of a $f", due.x.frame(0, 0, 0), -1);
        due.is("frame of an $e", due.x.frame(4, 1, 0), -1);
        due.is("frame(6, 3, 0)", due.x.frame(6, 3, 0), -1);
        due.is("frame(6, -1, 0)", due.x.frame(6, -1, 0), -1);
        due.is("frame(12, 0, 0)", due.x.frame(12, 0, 0), -1);
        due.is("frame(-1, 0, 0)", due.x.frame(-1, 0, 0), -1);
    }

    /** Labels that differ in one byte alone are told from one another. */
    private static void nearLabels(Due due) {
        StringBuilder text = new StringBuilder("$c t $. ");
        for (int i = 0; i < 180; i++) {
            text.append(label(i)).append(" $a t $. ");
        }
        due.book(text.toString(), 180);
        for (int i = 0; i < 180; i++) {
            found(due, label(i), i);
            for (char c = '!'; c <= '~'; c++) {
                found(due, c + label(i).substring(1), c == label(i).charAt(0) ? i : -2);
            }
        }
    }

    private static String label(int i) {
        return "q" + (char) ('a' + i % 20) + (char) ('A' + i / 20);
    }

    private static void pairsOfBlocks(Due due) {
        due.book("$c t $. $v a b c d $. fa $f t a $. fb $f t b $. fc $f t c $. fd $f t d $. ${ $d c d $. ${ $d a b $. "
            + "x4 $a t a b c d $. $} x5 $a t a b c d $. ${ $d d a c $. x6 $a t a b c d $. $} x7 $a t a b c d $. $} "
            + "x8 $a t a b c d $.", 9);
        frame(due, 4, 1, 1, 3);
        frame(due, 4, 2, 2, 4);
        frame(due, 5, 1, 3);
        frame(due, 5, 2, 4);
        frame(due, 6, 1, 1, 1, 3);
        frame(due, 6, 2, 3, 4, 4);
        frame(due, 7, 1, 3);
        frame(due, 7, 2, 4);
        frame(due, 8, 1);
    }

    private static void printed(Due due, int k, String text) {
        due.is("print(" + k + ")", due.x.print(k), text.length());
        due.is("OUT of " + k, due.out(), text);
        due.is("count(3)", due.x.count(3), text.length());
        due.is("out(-1)", due.x.out(-1), -1);
        due.is("out(end)", due.x.out(text.length()), -1);
    }

    private static void printing(Due due) {
        printed(due, 0, "wp $f wff p $.");
        printed(due, 5, "e2 $e |- s -> $.");
        printed(due, 8, "a3 $a |- s q q $.");
        printed(due, 7, "a2 $p |- -> $.");
        due.is("print(12)", due.x.print(12), -1);
        due.is("print(-1)", due.x.print(-1), -1);
        due.is("the OUT stays", due.out(), "a2 $p |- -> $.");
    }

    private static void longPrints(Due due) {
        // The label with 151 bytes makes just 6000.
        String name = "n".repeat(98);
        String row = (name + " ").repeat(59);
        for (int extra = 0; extra <= 1; extra++) {
            String label = "l".repeat(151 + extra);
            String text = "$c t $. $c " + name + " $. " + label + " $a t " + row + "$. s $a t $.";
            due.book(text, 2);
            due.is("print(1)", due.x.print(1), 9);
            String whole = label + " $a t " + row + "$.";
            due.is("print(0)", due.x.print(0), extra == 1 ? -3 : 6000);
            due.is("the OUT", due.out(), extra == 1 ? "s $a t $." : whole);
        }
    }

    private static void found(Due due, String label, int answer) {
        due.feed(label);
        due.is("find() of '" + label + "'", due.x.find(), answer);
        due.is("the text is empty", due.x.count(2), 0);
    }

    private static void finding(Due due) {
        due.book(TEXT, 12);
        due.is("print", due.x.print(0), 14);
        due.is("check", due.x.check(7), 1);
        found(due, "wp", 0);
        found(due, "e1", 4);
        found(due, "a6", 11);
        found(due, "a2", 7);
        found(due, "", -2);
        found(due, "a", -2);
        found(due, "a22", -2);
        found(due, " a2", -2);
        found(due, "a2 ", -2);
        found(due, "wff", -2);
        found(due, "p", -2);
        found(due, "\u00ff", -2);
        due.is("the OUT stays", due.out(), "wp $f wff p $.");
        due.is("place stays", due.x.place(), TEXT.length());
        due.feed("$c x");
        due.is("a faulty text", due.x.read(), -2);
        found(due, "a2", 7);
        due.is("an empty book", due.x.read(), 0);
        found(due, "a2", -2);
    }
}
