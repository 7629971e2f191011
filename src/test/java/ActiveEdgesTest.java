/** Terms: each sentence on what is declared, numbered and ACTIVE, and on THE FRAME, at its bounds. */
public final class ActiveEdgesTest {
    public static void main(String[] args) {
        Due due = new Due();
        all(due);
        due.end();
    }

    static void all(Due due) {
        constantsForGood(due);
        variablesToTheEndOfTheirBlock(due);
        variablesToTheEndOfTheText(due);
        declaredAgainIsTheSame(due);
        declaredAgainOnlyWhenNotActive(due);
        pairsToTheEndOfTheBlock(due);
        pairAgainInABlock(due);
        floatingToTheEndOfTheBlock(due);
        essentialToTheEndOfTheBlock(due);
        symbolNumbers(due);
        statementNumbers(due);
        mandatoryVariables(due);
        hypothesesInOrder(due);
        essentialWithoutVariables(due);
        noHypotheses(due);
        distinctPairs(due);
        distinctPairsAtEachPlace(due);
    }

    private static void hypotheses(Due due, int k, int... row) {
        due.is("statement(" + k + ", 3)", due.x.statement(k, 3), row.length);
        for (int i = 0; i < row.length; i++) {
            due.is("frame(" + k + ", 0, " + i + ")", due.x.frame(k, 0, i), row[i]);
        }
        due.is("frame(" + k + ", 0, " + row.length + ")", due.x.frame(k, 0, row.length), -2);
    }

    /** Pairs as lesser, greater, lesser, greater, .. */
    private static void pairs(Due due, int k, int... row) {
        due.is("statement(" + k + ", 4)", due.x.statement(k, 4), row.length / 2);
        for (int i = 0; 2 * i < row.length; i++) {
            due.is("frame(" + k + ", 1, " + i + ")", due.x.frame(k, 1, i), row[2 * i]);
            due.is("frame(" + k + ", 2, " + i + ")", due.x.frame(k, 2, i), row[2 * i + 1]);
        }
        due.is("frame(" + k + ", 1, end)", due.x.frame(k, 1, row.length / 2), -2);
        due.is("frame(" + k + ", 2, end)", due.x.frame(k, 2, row.length / 2), -2);
    }

    /** Terms: "$c declares CONSTANTS, for good." */
    private static void constantsForGood(Due due) {
        due.of("Terms: CONSTANTS are declared for good");
        due.book("$c t $. ${ ${ x $a t t $. $} $} ${ y $e t $. $} z $a t t t $. $c u $. w $a u t $.", 4);
        due.faultAt("$c t $. ${ $} $c #t $.", 5);
        due.faultAt("$c t $. ${ ${ $v #t $. $} $}", 5);
    }

    /** Terms: "$v declares VARIABLES, ACTIVE till the end of their block". */
    private static void variablesToTheEndOfTheirBlock(Due due) {
        due.of("Terms: VARIABLES are ACTIVE till the end of their block");
        String in = "$c t $. $v b $. ${ $v a $. $d a b $. ${ $d a b $. f $f t a $. x $a t a $. $} $d b a $. ";
        due.book(in + "g $f t a $. $}", 3);
        due.faultAt(in + "$} $d b #a $.", 6);
        due.faultAt(in + "$} g $f t #a $.", 6);
        due.faultAt(in + "$} y $a t #a $.", 6);
        due.faultAt(in + "$} ${ $d #a b $. $}", 6);
        due.faultAt(in + "$} y $e t #a $.", 6);
    }

    /** Terms: what is declared outside of blocks is ACTIVE till the end of the text. */
    private static void variablesToTheEndOfTheText(Due due) {
        due.of("Terms: outside of blocks it is ACTIVE to the end");
        due.book("$c t $. $v a b $. $d a b $. fa $f t a $. fb $f t b $. e $e t a $. ${ ${ $} x $a t b $. $} ${ $} "
            + "y $a t b $.", 5);
        hypotheses(due, 3, 0, 1, 2);
        hypotheses(due, 4, 0, 1, 2);
        pairs(due, 3, 1, 2);
        pairs(due, 4, 1, 2);
    }

    /** Terms: a variable "may be declared again when it is not active, and is the same symbol". */
    private static void declaredAgainIsTheSame(Due due) {
        due.of("Terms: a variable declared again is the same symbol");
        due.book("$c t $. ${ $v a b $. f $f t b $. $} $v c $. ${ ${ $v b $. g $f t b $. $} $v a b $. h $f t b $. $} "
            + "$v b a $. i $f t a $.", 4);
        due.is("symbols", due.x.count(0), 4);
        due.is("symbol of f", due.x.symbol(0, 1), 2);
        due.is("symbol of g", due.x.symbol(1, 1), 2);
        due.is("symbol of h", due.x.symbol(2, 1), 2);
        due.is("symbol of i", due.x.symbol(3, 1), 1);
        due.is("name of 3", due.name(0, 3), "c");
        // Declared again it begins anew: it has neither its old $f nor its old pairs.
        String again = "$c t $. $v c $. fc $f t c $. ${ $v a $. fa $f t a $. $d a c $. $} $v a $. ";
        due.faultAt(again + "x $a t #a $.", 6);
        due.book(again + "ga $f t a $. x $a t a c $.", 4);
        hypotheses(due, 3, 0, 2);
        pairs(due, 3);
    }

    /** Terms: "one may be declared again when it is not active", else it is fault 5. */
    private static void declaredAgainOnlyWhenNotActive(Due due) {
        due.of("Terms: no variable is declared again while it is active");
        due.faultAt("$v a #a $.", 5);
        due.faultAt("$v a $. $v #a $.", 5);
        due.faultAt("$v a $. ${ $v #a $. $}", 5);
        due.faultAt("${ $v a $. ${ ${ $v #a $. $} $} $}", 5);
        due.faultAt("${ $v a $. $} $v a #a $.", 5);
        due.faultAt("${ $v a $. ${ $} $v #a $. $}", 5);
        due.book("${ ${ $v a $. $} $v a $. $} $v a $.", 0);
    }

    /** Terms: "A pair of variables of a $d .. ACTIVE till the end of the block in which they stand." */
    private static void pairsToTheEndOfTheBlock(Due due) {
        due.of("Terms: a pair is ACTIVE till the end of its block");
        due.book("$c t $. $v a b c $. fa $f t a $. fb $f t b $. fc $f t c $. ${ x $a t a b c $. $d a b $. "
            + "y $a t a b c $. ${ $d b c $. z $a t a b c $. $} w $a t a b c $. $} v $a t a b c $.", 8);
        pairs(due, 3);
        pairs(due, 4, 1, 2);
        pairs(due, 5, 1, 2, 2, 3);
        pairs(due, 6, 1, 2);
        pairs(due, 7);
    }

    /** Terms: a pair that stands in a block and around it is active till the end of the outer one. */
    private static void pairAgainInABlock(Due due) {
        due.of("Terms: a pair that is active already, in a block");
        due.book("$c t $. $v a b $. fa $f t a $. fb $f t b $. ${ $d a b $. ${ $d b a $. x $a t a b $. $} y $a t a b $. $} "
            + "z $a t a b $. ${ ${ $d a b $. $} $d a b $. w $a t a b $. $} v $a t a b $.", 7);
        pairs(due, 2, 1, 2);
        pairs(due, 3, 1, 2);
        pairs(due, 4);
        pairs(due, 5, 1, 2);
        pairs(due, 6);
    }

    /** Terms: "a $f .. ACTIVE till the end of the block in which they stand." */
    private static void floatingToTheEndOfTheBlock(Due due) {
        due.of("Terms: a $f is ACTIVE till the end of its block");
        String text = "$c t u $. $v a $. ${ f $f t a $. x $a t a $. ${ y $a t a $. $} z $a t a $. $} ";
        due.book(text + "g $f u a $. w $a t a $.", 6);
        hypotheses(due, 1, 0);
        hypotheses(due, 2, 0);
        hypotheses(due, 3, 0);
        hypotheses(due, 5, 4);
        due.faultAt(text + "w $a t #a $.", 6);
        due.faultAt("$c t $. $v a $. ${ f $f t a $. ${ g $f t #a $. $} $}", 6);
        due.check(text, "g $f t a $. p $p t a $= f $.", -102, 0);
        due.check(text, "g $f t a $. p $p t a $= g $.", 0, 1);
    }

    /** Terms: "an $e .. ACTIVE till the end of the block in which they stand." */
    private static void essentialToTheEndOfTheBlock(Due due) {
        due.of("Terms: an $e is ACTIVE till the end of its block");
        String text = "$c t $. ${ x $a t $. e $e t t $. y $a t $. ${ g $e t t t $. z $a t $. $} w $a t $. $} v $a t $. ";
        due.book(text, 7);
        hypotheses(due, 0);
        hypotheses(due, 2, 1);
        hypotheses(due, 4, 1, 3);
        hypotheses(due, 5, 1);
        hypotheses(due, 6);
        due.check(text, "p $p t t $= e $.", -102, 0);
        due.check("$c t $. ", "${ e $e t t $. p $p t t $= e $. $}", 0, 1);
    }

    /** Terms: "SYMBOLS are numbered from 0 as they are first declared". */
    private static void symbolNumbers(Due due) {
        due.of("Terms: SYMBOLS are numbered as they are first declared");
        due.book("$v z $. $c y x $. ${ $v w $. ${ $v v $. $} $} $c u $. $v w q $.", 0);
        String[] names = {"z", "y", "x", "w", "v", "u", "q"};
        due.is("symbols", due.x.count(0), names.length);
        for (int i = 0; i < names.length; i++) {
            due.is("name of " + i, due.name(0, i), names[i]);
        }
        due.is("none before 0", due.x.name(0, -1, 0), -1);
        due.is("none behind the last", due.x.name(0, names.length, 0), -1);
    }

    /** Terms: "STATEMENTS, that is $f $e $a $p, in the order of the text". */
    private static void statementNumbers(Due due) {
        due.of("Terms: STATEMENTS are numbered in the order of the text");
        due.book("$c t $. $v a b $. z $a t $. ${ y $f t a $. $d a b $. ${ x $e t $. $} w $p t $= $. $} v $a t $.", 5);
        String[] labels = {"z", "y", "x", "w", "v"};
        int[] kinds = {2, 0, 1, 3, 2};
        for (int k = 0; k < labels.length; k++) {
            due.is("label of " + k, due.name(1, k), labels[k]);
            due.is("kind of " + k, due.x.statement(k, 0), kinds[k]);
        }
        due.is("$c $v $d and blocks are none", due.x.count(1), 5);
    }

    /** Terms: "its MANDATORY VARIABLES are those in it and in the $e that are active there". */
    private static void mandatoryVariables(Due due) {
        due.of("Terms: MANDATORY VARIABLES");
        String head = "$c t $. $v a b c $. fa $f t a $. fb $f t b $. fc $f t c $. ";
        due.book(head + "x $a t b b $. ${ e $e t a t a $. y $a t c $. z $a t $. w $p t a $= fb $. $} v $a t $. "
            + "u $p t $= fa fb $.", 10);
        hypotheses(due, 3, 1);
        hypotheses(due, 5, 0, 2, 4);
        hypotheses(due, 6, 0, 4);
        hypotheses(due, 7, 0, 4);
        hypotheses(due, 8);
        hypotheses(due, 9);
    }

    /** Terms: "its HYPOTHESES the active $e, and the active $f of these variables, in the order of the text". */
    private static void hypothesesInOrder(Due due) {
        due.of("Terms: HYPOTHESES are in the order of the text");
        due.book("$c t $. $v c b a $. d $e t $. fa $f t a $. e $e t a $. fc $f t c $. g $e t t $. fb $f t b $. "
            + "x $a t b c $. y $a t c b $. z $a t $. h $e t b $. w $a t $.", 11);
        hypotheses(due, 6, 0, 1, 2, 3, 4, 5);
        hypotheses(due, 7, 0, 1, 2, 3, 4, 5);
        hypotheses(due, 8, 0, 1, 2, 4);
        hypotheses(due, 10, 0, 1, 2, 4, 5, 9);
    }

    /** Terms: HYPOTHESES are "the active $e", also one that has no variable. */
    private static void essentialWithoutVariables(Due due) {
        due.of("Terms: each active $e is a HYPOTHESIS");
        due.book("$c t $. $v a $. fa $f t a $. e $e t $. x $a t $. y $a t a $.", 4);
        hypotheses(due, 2, 1);
        hypotheses(due, 3, 0, 1);
    }

    /** Terms: an assertion may have no HYPOTHESES and no DISTINCT pairs. */
    private static void noHypotheses(Due due) {
        due.of("Terms: no HYPOTHESES");
        due.book("$c t $. x $a t $. $v a b $. fa $f t a $. fb $f t b $. $d a b $. y $a t t $. p $p t $= x $.", 5);
        for (int k : new int[] {0, 3, 4}) {
            hypotheses(due, k);
            pairs(due, k);
        }
    }

    /** Terms: "its DISTINCT pairs all active pairs of two of these variables." */
    private static void distinctPairs(Due due) {
        due.of("Terms: DISTINCT pairs are of two MANDATORY VARIABLES");
        due.book("$c t $. $v a b c d $. fa $f t a $. fb $f t b $. fc $f t c $. fd $f t d $. $d d c b a $. "
            + "x $a t a $. y $a t b d $. ${ e $e t c $. z $a t a $. $} w $a t d c b a $. v $p t b a $= fc fd $.", 10);
        pairs(due, 4);
        pairs(due, 5, 2, 4);
        pairs(due, 7, 1, 3);
        pairs(due, 8, 1, 2, 1, 3, 1, 4, 2, 3, 2, 4, 3, 4);
        pairs(due, 9, 1, 2);
    }

    /** Terms: active pairs are those that stand before the assertion, each once. */
    private static void distinctPairsAtEachPlace(Due due) {
        due.of("Terms: DISTINCT pairs are the active ones, each once");
        due.book("$c t $. $v a b c $. fa $f t a $. fb $f t b $. fc $f t c $. x $a t a b c $. $d c a $. y $a t a b c $. "
            + "$d a c $. $d b c a $. z $a t a b c $.", 6);
        pairs(due, 3);
        pairs(due, 4, 1, 3);
        pairs(due, 5, 1, 2, 1, 3, 2, 3);
    }
}
