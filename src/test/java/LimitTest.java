/** Terms, FAULTS of the text: 7, what would be too much, and just not. */
public final class LimitTest {
    public static void main(String[] args) {
        Due due = new Due();
        all(due);
        due.end();
    }

    static void all(Due due) {
        blocks(due);
        symbols(due);
        symbolsDeclaredAgain(due);
        statements(due);
        statementSymbols(due);
        declaredAtOnce(due);
        distinctVariables(due);
        proofTokens(due);
        pairs(due);
        pairsCountedOnce(due);
        pairsThatAreActive(due);
        pairsWithWhatMayNotStandThere(due);
        tokens(due);
    }

    /** Terms: 7 "the 17th block open at once". */
    private static void blocks(Due due) {
        due.of("Terms: 7 the 17th block open at once");
        due.book(Due.times(16, "${ ") + Due.times(16, "$} "), 0);
        due.faultAt(Due.times(16, "${ ") + "#${", 7);
        due.faultAt(Due.times(16, "${ ") + "#${ " + Due.times(17, "$} "), 7);
        // Those that are closed don't count.
        due.book(Due.times(16, "${ ") + "$} ${ " + Due.times(16, "$} "), 0);
        due.faultAt(Due.times(16, "${ ") + "$} ${ #${", 7);
        due.book(Due.times(40, "${ $} "), 0);
        due.book("$c t $. " + Due.times(16, "${ ") + "x $e t $. y $a t $. " + Due.times(16, "$} "), 2);
        due.is("blocks open", due.x.statement(0, 2), 16);
    }

    /** Terms: 7 "the 301st symbol"; "SYMBOLS .. at most 300". */
    private static void symbols(Due due) {
        due.of("Terms: 7 the 301st symbol");
        String all = "$c " + Due.row("c", 0, 150) + "$. $v " + Due.row("v", 150, 300) + "$. ";
        due.book(all, 0);
        due.is("symbols", due.x.count(0), 300);
        due.is("the last one", due.name(0, 299), "v299");
        due.faultAt(all + "$c #x $.", 7);
        due.faultAt(all + "$v #x $.", 7);
        due.faultAt("$c " + Due.row("c", 0, 300) + "#x $.", 7);
        due.faultAt("$v " + Due.row("v", 0, 300) + "#x $.", 7);
        // A symbol that is there is not the 301st.
        due.faultAt(all + "$c #c0 $.", 5);
        due.faultAt(all + "$c #v299 $.", 5);
        due.faultAt(all + "$v #v299 $.", 5);
        due.faultAt(all + "$v #c149 $.", 5);
        due.fresh();
        for (int i = 0; i < 4; i++) {
            due.feed("$v " + Due.row("v", 0, 300) + "$.");
            due.is("300 variables in another book", due.x.read(), 0);
        }
    }

    /** Terms: a variable declared again "is the same symbol", so it is not the 301st. */
    private static void symbolsDeclaredAgain(Due due) {
        due.of("Terms: a variable declared again is not the 301st symbol");
        String inner = "$c " + Due.row("c", 0, 290) + "$. ${ $v " + Due.row("v", 290, 300) + "$. $} ";
        due.book(inner + "$v v299 v290 $.", 0);
        due.is("symbols", due.x.count(0), 300);
        due.faultAt(inner + "$v v299 v290 #x $.", 7);
        due.faultAt(inner + "$v v299 #v299 $.", 5);
        due.book(Due.times(500, "${ $v a $. $} "), 0);
        due.is("symbols", due.x.count(0), 1);
    }

    private static String axioms(int n) {
        StringBuilder all = new StringBuilder("$c t $. ");
        for (int i = 0; i < n; i++) {
            all.append('s').append(i).append(" $a t $. ");
        }
        return all.toString();
    }

    /** Terms: 7 "the 201st statement (at its label)"; "STATEMENTS .. at most 200". */
    private static void statements(Due due) {
        due.of("Terms: 7 the 201st statement, at its label");
        due.book(axioms(200) + "$v a b $. $c u $. $d a b $. ${ $} $( x $)", 200);
        due.is("the last label", due.name(1, 199), "s199");
        due.is("its kind", due.x.statement(199, 0), 2);
        due.is("no more", due.x.statement(200, 0), -1);
        due.faultAt(axioms(200) + "#x $a t $.", 7);
        due.faultAt(axioms(200) + "#x", 7);
        due.faultAt(axioms(200) + "$v a $. ${ #x $f t a $. $}", 7);
        due.faultAt(axioms(199) + "x $e t $. #y $p t $= $.", 7);
        due.book(axioms(199) + "x $p t $= s0 $.", 200);
        due.is("check", due.x.check(199), 0);
    }

    /** Terms: 7 "the 61st SYMBOL of a statement". */
    private static void statementSymbols(Due due) {
        due.of("Terms: 7 the 61st SYMBOL of a statement");
        String head = "$c t $. $v a $. f $f t a $. ";
        for (String kind : new String[] {"$e", "$a", "$p"}) {
            String end = kind.equals("$p") ? "$= $." : "$.";
            due.book(head + "x " + kind + " t " + Due.times(59, "a ") + end, 2);
            due.is("symbols", due.x.statement(1, 1), 60);
            due.is("the last one", due.x.symbol(1, 59), 1);
            due.is("no more", due.x.symbol(1, 60), -1);
            due.faultAt(head + "x " + kind + " t " + Due.times(59, "a ") + "#a " + end, 7);
            due.faultAt(head + "x " + kind + " t " + Due.times(59, "a ") + "#t " + end, 7);
        }
    }

    /** Terms: STATEMENTS are $f $e $a $p: a $c or $v may declare more than 60 at once. */
    private static void declaredAtOnce(Due due) {
        due.of("Terms: a $c or $v is no statement of 60 SYMBOLS");
        due.book("$c " + Due.row("c", 0, 100) + "$. $v " + Due.row("v", 0, 100) + "$.", 0);
        due.is("symbols", due.x.count(0), 200);
    }

    /** Terms: 7 "the 9th VARIABLE of a $d". */
    private static void distinctVariables(Due due) {
        due.of("Terms: 7 the 9th VARIABLE of a $d");
        String head = "$v " + Due.row("v", 0, 9) + "$. $d " + Due.row("v", 0, 8);
        due.book(head + "$.", 0);
        due.book(head + "$. $d v8 " + Due.row("v", 0, 7) + "$.", 0);
        due.faultAt(head + "#v8 $.", 7);
    }

    /** Terms: 7 "the 401st token of a proof". */
    private static void proofTokens(Due due) {
        due.of("Terms: 7 the 401st token of a proof");
        String head = "$c t $. x $p t $= ";
        due.book(head + Due.times(400, "z ") + "$.", 1);
        due.is("tokens", due.x.statement(0, 5), 400);
        due.book(head + Due.times(200, "z $( y $) ") + Due.times(200, "z ") + "$.", 1);
        due.is("tokens", due.x.statement(0, 5), 400);
        due.book(head + "( ) " + Due.times(398, "A ") + "$.", 1);
        due.faultAt(head + Due.times(400, "z ") + "#z $.", 7);
        due.faultAt(head + "( ) " + Due.times(398, "A ") + "#A $.", 7);
        due.book(head + Due.times(400, "z ") + "$. y $p t $= " + Due.times(400, "z ") + "$.", 2);
    }

    /** Seven rows of eight are 196 pairs. */
    private static String pairs196() {
        StringBuilder most = new StringBuilder("$v " + Due.row("v", 0, 60) + "$. ");
        for (int i = 0; i < 7; i++) {
            most.append("$d ").append(Due.row("v", 8 * i, 8 * i + 8)).append("$. ");
        }
        return most.toString();
    }

    private static final String FOUR = "$d v0 v8 v16 $. $d v0 v9 $. ";

    /** Terms: 7 "the 201st active pair", "at the VARIABLE with which it comes". */
    private static void pairs(Due due) {
        due.of("Terms: 7 the 201st active pair, at its VARIABLE");
        String most = pairs196();
        due.book(most + FOUR, 0);
        due.faultAt(most + FOUR + "$d v0 #v59 $.", 7);
        due.faultAt(most + FOUR + "$d v58 #v59 $.", 7);
        // Three come with v24: the fifth, sixth and seventh.
        due.faultAt(most + "$d v0 v8 v16 #v24 $.", 7);
        due.faultAt(most + "$d v56 v57 v58 #v59 $.", 7);
        due.book(most + "$d v56 v57 v58 $. $d v56 v59 $.", 0);
    }

    /** Terms: 7 the 201st active pair, "each counted once". */
    private static void pairsCountedOnce(Due due) {
        due.of("Terms: 7 each active pair is counted once");
        String most = pairs196();
        due.book(most + FOUR + "$d v0 v9 $. $d v1 v0 v7 $. $d v16 v0 $. ${ $d v9 v0 $. $}", 0);
        due.faultAt(most + FOUR + "$d v9 v0 #v10 $.", 7);
        due.book("$v a b $. " + Due.times(250, "$d a b $. "), 0);
    }

    /** Terms: 7 the 201st "active" pair: those of blocks that were closed don't count. */
    private static void pairsThatAreActive(Due due) {
        due.of("Terms: 7 pairs of closed blocks don't count");
        String most = pairs196();
        due.book(most + "${ " + FOUR + "${ $d v0 v9 $. $} $} " + FOUR, 0);
        due.faultAt(most + "${ " + FOUR + "${ $d v0 v9 $. $} $d v0 #v57 $. $}", 7);
        due.faultAt(most + "${ " + FOUR + "$} " + FOUR + "$d v0 #v57 $.", 7);
        due.book("$v " + Due.row("v", 0, 8) + "$. " + Due.times(20, "${ $d " + Due.row("v", 0, 8) + "$. $} "), 0);
    }

    /** Terms: 7 the 201st active pair, at the VARIABLE "which may stand there: else 6". */
    private static void pairsWithWhatMayNotStandThere(Due due) {
        due.of("Terms: 7 only at a VARIABLE that may stand there, else 6");
        String most = pairs196();
        due.faultAt(most + FOUR + "$d v0 #zz $.", 6);
        due.faultAt(most + FOUR + "$d v0 #v0 $.", 6);
        due.faultAt(most + FOUR + "$d #zz v0 $.", 6);
        due.faultAt(most + "${ $v w $. $} " + FOUR + "$d v0 #w $.", 6);
        due.faultAt(most + "$c t $. " + FOUR + "$d v0 #t $.", 6);
    }

    /** Terms: THE TEXT "has at most 8192 bytes", and so some 4096 tokens; none of them is passed over. */
    private static void tokens(Due due) {
        due.of("Terms: a text full of tokens");
        due.fresh();
        due.feed("$c " + Due.times(8189 / 2, "x "));
        due.is("a text full of tokens", due.x.read(), -5);
        due.is("place", due.x.place(), 5);
        due.fresh();
        due.feed("$( " + Due.times(4093, "x ") + "$)x");
        due.is("a text full of comment, read", due.x.read(), -3);
        due.is("place", due.x.place(), 8189);
        due.fresh();
        due.feed("$( " + Due.times(4093, "x ") + "$)");
        due.is("a text full of comment, read", due.x.read(), 0);
        due.fresh();
        due.feed(Due.times(4096, "! "));
        due.is("a text full of wrong labels", due.x.read(), -4);
    }
}
