/** Terms: each sentence on how the steps of a proof are run, with the FAULTS -4 to -10 and their order. */
public final class StepEdgesTest {
    private static final String HEAD = "$c t w | o $. $v a b c e z P $. ta $f t a $. tb $f t b $. tc $f t c $. "
        + "te $f t e $. wP $f w P $. k $a t o $. em $a t $. pr $a t a b $. u $a t a $. wk $a w o $. bo $a | o $. "
        + "bar $a | $. x1 $a t o a $. x4 $a t a a a a $. "
        + "${ q1 $e | a $. tz $f t z $. q2 $e | z $. s $a | a z $. $} "
        + "${ $d a b $. d $a | a b $. $} "
        + "${ $d a b $. v $e | a $. dd $a | a b $. $} "
        + "${ v4 $e | a $. lg $a | a a a a $. $} ";
    // 14 steps that make 192 symbols behind the t.
    private static final String LONG = "ta x4 x4 x4 ta x4 x4 x4 pr ta x4 x4 x4 pr ";

    public static void main(String[] args) {
        Due due = new Due();
        all(due);
        due.end();
    }

    static void all(Due due) {
        hypothesisPutsItsSymbols(due);
        firstForTheFirst(due);
        takesAsManyAsHypotheses(due);
        floatingBeginsWithItsConstant(due);
        nothingMayStandForAVariable(due);
        essentialIsAsItMustBe(due);
        noVariableInCommon(due);
        eachWithEachIsAPair(due);
        constantsAndNothingAreApart(due);
        pairsActiveAtTheProof(due);
        pairsOfTheAssertion(due);
        assertionPutsItsSymbols(due);
        markedStepPutsWhatItDid(due);
        tooFew(due);
        notJustOne(due);
        notTheSymbols(due);
        tooManyThings(due);
        tooManySymbols(due);
        faultsAreAtTheStep(due);
        fewIsBeforeHypotheses(due);
        hypothesisByHypothesis(due);
        hypothesesAreBeforePairs(due);
        pairsAreBeforeTooMuch(due);
        hypothesesAreBeforeTooMuch(due);
    }

    /** Checks a $p of these symbols, with what is declared before it. */
    private static void is(Due due, String before, String symbols, String proof, int answer, int step) {
        due.check(HEAD, before + "p $p " + symbols + " $= " + proof + " $.", answer, step);
    }

    private static void traced(Due due, String symbols, String proof, int n, String... things) {
        due.fresh();
        due.feed(HEAD + "p $p " + symbols + " $= " + proof + " $.");
        int k = due.x.read() - 1;
        due.is("trace of " + proof, due.x.trace(k, n), things.length);
        for (int d = 0; d < things.length; d++) {
            StringBuilder all = new StringBuilder();
            for (int i = 0; i < due.x.thing(d, -1); i++) {
                all.append(i > 0 ? " " : "").append(due.name(0, due.x.thing(d, i)));
            }
            due.is("thing " + d + " of " + proof, all.toString(), things[d]);
        }
    }

    /** Terms: "A step that names a hypothesis ($f or $e that is active at the $p) puts its symbols on THE STACK." */
    private static void hypothesisPutsItsSymbols(Due due) {
        due.of("Terms: a hypothesis puts its symbols on the stack");
        is(due, "", "t a", "ta", 0, 1);
        is(due, "h $e | a o b $. ", "| a o b", "h", 0, 1);
        is(due, "${ h $e | a $. ", "| a", "h $. $} q $p t a $= ta", 0, 1);
        traced(due, "t a", "ta wP tc", 2, "t c", "w P", "t a");
    }

    /** Terms: an assertion's step takes as many "as that has HYPOTHESES, the first one for the first". */
    private static void firstForTheFirst(Due due) {
        due.of("Terms: the first one is for the first HYPOTHESIS");
        is(due, "", "t a b", "ta tb pr", 0, 3);
        is(due, "", "t b a", "ta tb pr", -109, 3);
        is(due, "", "t b a", "tb ta pr", 0, 3);
        is(due, "h $e | c $. g $e | e $. ", "| c e", "tc h te g s", 0, 5);
        is(due, "h $e | c $. g $e | e $. ", "| c e", "te g tc h s", -109, 5);
        is(due, "h $e | c $. g $e | e $. ", "| c e", "tc te h g s", -106, 4);
    }

    /** Terms: it "takes as many from there as that has HYPOTHESES": none for none, and what is below stays. */
    private static void takesAsManyAsHypotheses(Due due) {
        due.of("Terms: as many are taken as the assertion has HYPOTHESES");
        traced(due, "t a", "tc k", 1, "t o", "t c");
        traced(due, "t a", "tc ta u", 2, "t a", "t c");
        traced(due, "t a", "tc ta tb pr", 3, "t a b", "t c");
        traced(due, "t a", "tc k bo k bo s", 5, "| o o", "t c");
    }

    /** Terms: "that for a $f must begin with its constant", and -5. */
    private static void floatingBeginsWithItsConstant(Due due) {
        due.of("Terms: -5 that for a $f must begin with its constant");
        is(due, "", "t a", "ta u", 0, 2);
        is(due, "", "w P", "wP u", -105, 1);
        is(due, "", "t a", "bo u", -105, 1);
        is(due, "", "t a", "ta wP pr", -105, 2);
        is(due, "", "t a", "wP ta pr", -105, 2);
        is(due, "h $e o t $. ", "t a", "h u", -105, 1);
    }

    /** Terms: "what is left (perhaps nothing) stands for its variable". */
    private static void nothingMayStandForAVariable(Due due) {
        due.of("Terms: nothing may stand for a variable");
        is(due, "", "t", "em u", 0, 2);
        is(due, "", "t", "em em pr", 0, 3);
        is(due, "", "t a", "ta em pr", 0, 3);
        is(due, "", "t a", "em ta pr", 0, 3);
        is(due, "", "t o", "em x1", 0, 2);
        is(due, "", "|", "em bar em bar s", 0, 5);
        is(due, "", "| o", "em bar k bo s", 0, 5);
        is(due, "", "| a", "ta em d", 0, 3);
    }

    /** Terms: "that for an $e must be the $e's symbols with that for its variables", and -6. */
    private static void essentialIsAsItMustBe(Due due) {
        due.of("Terms: -6 that for an $e must be its symbols, with that for its variables");
        is(due, "", "| o o", "k bo k bo s", 0, 5);
        is(due, "", "| o o", "k bar k bo s", -106, 4);
        is(due, "", "| o o", "em bo k bo s", -106, 4);
        is(due, "", "| o o", "k bo em bo s", -106, 4);
        is(due, "", "| o o", "k bo k bar s", -106, 4);
        is(due, "", "| o o", "k wk k bo s", -106, 4);
        is(due, "", "| o o", "k k k bo s", -106, 4);
        is(due, "h $e | a o b $. ", "| a o b", "ta tb x1 pr h k bo s", -109, 8);
        is(due, "h $e | a o b $. ", "| a o b o", "ta tb x1 pr h k bo s", 0, 8);
        is(due, "h $e | a o a $. ", "| a o b o", "ta tb x1 pr h k bo s", -106, 7);
        is(due, "h $e | a o b b $. ", "| a o b o", "ta tb x1 pr h k bo s", -106, 7);
        is(due, "h $e | a o $. ", "| a o b o", "ta tb x1 pr h k bo s", -106, 7);
    }

    /** Terms: for a DISTINCT pair (x, y) "what stands for x and what stands for y have no variable in common", -7. */
    private static void noVariableInCommon(Due due) {
        due.of("Terms: -7 no variable in common");
        is(due, "$d a b c e $. ", "| c c", "tc tc d", -107, 2);
        is(due, "$d a b c e $. ", "| a b b", "ta tb pr tb d", -107, 4);
        is(due, "$d a b c e $. ", "| a b c a", "ta tb pr tc ta pr d", -107, 6);
        is(due, "$d a b c e $. ", "| a b c e", "ta tb pr tc te pr d", 0, 7);
    }

    /** Terms: "each variable of the one and each of the other are a pair that is active at the $p". */
    private static void eachWithEachIsAPair(Due due) {
        due.of("Terms: -7 each variable of the one and each of the other");
        String[] pairs = {"$d a c $. ", "$d a e $. ", "$d b c $. ", "$d b e $. "};
        for (int missing = -1; missing < 4; missing++) {
            StringBuilder before = new StringBuilder("$d a b $. $d c e $. ");
            for (int i = 0; i < 4; i++) {
                before.append(i == missing ? "" : pairs[i]);
            }
            is(due, before.toString(), "| a b c e", "ta tb pr tc te pr d", missing < 0 ? 0 : -107, missing < 0 ? 7 : 6);
        }
        // Those of one side need not be pairs with one another, and the order in a pair is of no matter.
        is(due, "$d c a $. $d e a $. $d c b $. $d e b $. ", "| a b c e", "ta tb pr tc te pr d", 0, 7);
        is(due, "$d e c $. ", "| c e", "tc te d", 0, 3);
        is(due, "$d e c $. ", "| e c", "te tc d", 0, 3);
        is(due, "", "| c e", "tc te d", -107, 2);
    }

    /** Terms: only variables are held apart: constants and nothing are apart from all. */
    private static void constantsAndNothingAreApart(Due due) {
        due.of("Terms: constants and nothing are apart from all");
        is(due, "", "| o o", "k k d", 0, 3);
        is(due, "", "|", "em em d", 0, 3);
        is(due, "", "| a o", "ta k d", 0, 3);
        is(due, "", "| a", "em ta d", 0, 3);
        is(due, "", "| o a a", "ta x1 ta d", -107, 3);
    }

    /** Terms: pairs count that are "active at the $p", and not those of closed blocks, or behind it. */
    private static void pairsActiveAtTheProof(Due due) {
        due.of("Terms: -7 a pair that is active at the $p");
        is(due, "$d c e $. ", "| c e", "tc te d", 0, 3);
        is(due, "${ $d c e $. $} ", "| c e", "tc te d", -107, 2);
        is(due, "", "| c e", "tc te d $. $d c e", -107, 2);
        due.check(HEAD, "$d c e $. ${ ${ p $p | c e $= tc te d $. $} $}", 0, 3);
        due.check(HEAD, "${ ${ $d c e $. p $p | c e $= tc te d $. $} $}", 0, 3);
        // It need not be a DISTINCT pair of the $p: e is not in it.
        String drop = "${ y1 $e | c e $. y2 $a | c $. $} ";
        due.check(HEAD + drop, "$d a b $. p $p | a $= ta tb ta tb d y2 $.", 0, 6);
        due.check(HEAD + drop, "p $p | a $= ta tb ta tb d y2 $.", -107, 4);
    }

    /** Terms: "For each DISTINCT pair (x, y) of the assertion": each one, and no active pair that is none of it. */
    private static void pairsOfTheAssertion(Due due) {
        due.of("Terms: -7 each DISTINCT pair of the assertion, and no other");
        String three = "${ $d a b c $. d3 $a | a b c $. $} ";
        String[] pairs = {"$d a b $. ", "$d a c $. ", "$d b c $. "};
        for (int missing = -1; missing < 3; missing++) {
            String before = three + (missing == 0 ? "" : pairs[0]) + (missing == 1 ? "" : pairs[1])
                + (missing == 2 ? "" : pairs[2]);
            is(due, before, "| a b c", "ta tb tc d3", missing < 0 ? 0 : -107, missing < 0 ? 4 : 3);
        }
        is(due, "${ $d a b $. $d c e $. d2 $a | a c $. $} ", "| a a", "ta ta d2", 0, 3);
        is(due, "${ d2 $a | a c $. $d a c $. $} ", "| a a", "ta ta d2", 0, 3);
        is(due, "${ $d a b $. d2 $a | a b $. $} ${ d4 $a | a b $. $} ", "| a a", "ta ta d4", 0, 3);
    }

    /** Terms: "Then the assertion's symbols, with that for its variables, are put on the stack." */
    private static void assertionPutsItsSymbols(Due due) {
        due.of("Terms: the assertion's symbols, with that for its variables, are put on the stack");
        traced(due, "t a", "k", 0, "t o");
        traced(due, "t a", "em x4", 1, "t");
        traced(due, "t a", "tb x1 x4", 2, "t o b o b o b o b");
        traced(due, "t a", "tb ta pr", 2, "t b a");
        // What stands for a variable is not looked at again: a and b change places at once.
        traced(due, "t a", "tb ta pr ta tb pr pr", 6, "t b a a b");
        traced(due, "t a", "k bo em bar s", 4, "| o");
    }

    /** Terms: "One that names a marked step puts on what that one did." */
    private static void markedStepPutsWhatItDid(Due due) {
        due.of("Terms: a marked step's number puts on what that step did");
        // A ta, B pr, C x1, D and E the marks: the first is t a, the second t o a.
        traced(due, "t a", "( pr x1 ) AZCZDE", 3, "t o a", "t a", "t o a");
        traced(due, "t a", "( pr x1 ) AZCZDEB", 4, "t a o a", "t o a");
        traced(due, "t a", "( pr x1 ) AZCZDEBZF", 5, "t a o a", "t a o a", "t o a");
        traced(due, "t a", "( pr x1 ) AZCZEZCCD", 5, "t a", "t o o o a", "t o a");
    }

    /** Terms: "-4 the stack has too few." */
    private static void tooFew(Due due) {
        due.of("Terms: -4 the stack has too few");
        is(due, "", "t a", "u", -104, 0);
        is(due, "", "t a", "pr", -104, 0);
        is(due, "", "t a", "ta pr", -104, 1);
        is(due, "", "t a", "ta tb pr pr", -104, 3);
        is(due, "", "| o o", "k bo k s", -104, 3);
        is(due, "", "t a", "( pr ) AB", -104, 1);
    }

    /** Terms: "-8 not just one thing is on the stack at the end", "at how many steps there are". */
    private static void notJustOne(Due due) {
        due.of("Terms: -8 not just one thing at the end");
        is(due, "", "t a", "ta ta", -108, 2);
        is(due, "", "t a", "tb ta", -108, 2);
        is(due, "", "t a", "ta u ta u ta", -108, 5);
        is(due, "", "t a", "( u ) ABZC", -108, 3);
        // It is told before -9.
        is(due, "", "t a", "tb tb", -108, 2);
    }

    /** Terms: "-9 that is not the $p's symbols (both at how many steps there are)". */
    private static void notTheSymbols(Due due) {
        due.of("Terms: -9 not the $p's symbols at the end");
        is(due, "", "t a", "tb", -109, 1);
        is(due, "", "t a a", "ta", -109, 1);
        is(due, "", "t", "ta", -109, 1);
        is(due, "", "w a", "ta", -109, 1);
        is(due, "", "t a b", "tb ta pr u", -109, 4);
        is(due, "", "t a", "( u tb ) CBBZ", -109, 3);
    }

    /** Terms: -10 "the 101st thing on the stack". */
    private static void tooManyThings(Due due) {
        due.of("Terms: -10 the 101st thing on the stack");
        String hundred = Due.times(100, "ta ");
        is(due, "", "t a", hundred, -108, 100);
        is(due, "", "t a", hundred + "ta", -110, 100);
        is(due, "h $e | $. ", "t a", hundred + "h", -110, 100);
        is(due, "", "t a", hundred + "k", -110, 100);
        is(due, "", "t a", Due.times(99, "ta ") + "k", -108, 100);
        is(due, "", "t a", hundred + "u pr k", -108, 103);
        is(due, "", "t a", hundred + "u pr k k", -110, 103);
        is(due, "", "t a", "( ) AZ" + Due.times(99, "B"), -108, 100);
        is(due, "", "t a", "( ) AZ" + Due.times(100, "B"), -110, 100);
    }

    /** Terms: -10 "more than 200 symbols of one". */
    private static void tooManySymbols(Due due) {
        due.of("Terms: -10 more than 200 symbols of one");
        is(due, "", "t a", LONG + Due.times(7, "x1 "), -109, 21);
        is(due, "", "t a", LONG + Due.times(8, "x1 "), -110, 21);
        is(due, "", "t a", LONG + "ta x4 pr k pr k pr k pr", -109, 23);
        is(due, "", "t a", LONG + "ta x4 x4 pr", -110, 17);
        is(due, "", "t a", LONG + "x4", -110, 14);
        // 200 symbols may be taken on, and nothing be made of them.
        is(due, "", "t a", LONG + Due.times(7, "x1 ") + "u u em pr", -109, 25);
    }

    /** Terms: "All from -4 on that are found as the proof is run are at the step, from 0." */
    private static void faultsAreAtTheStep(Due due) {
        due.of("Terms: faults of the run are at the step, from 0");
        is(due, "", "t a", "pr", -104, 0);
        is(due, "", "t a", "( pr u ) ACZCZB", -104, 3);
        is(due, "", "t a", "( pr u wP ) ACZ CZ DZ B", -105, 4);
        is(due, "", "| o o", "( k bo bar s ) AZCEBD", -106, 4);
        is(due, "", "| a a", "( d u ) ACZDB", -107, 3);
    }

    /** Terms: "Of one step -4, then hypothesis by hypothesis": too few is told though one does not fit. */
    private static void fewIsBeforeHypotheses(Due due) {
        due.of("Terms: of one step -4 is first");
        is(due, "", "t a", "wP pr", -104, 1);
        is(due, "", "| o o", "wk wk wk s", -104, 3);
        is(due, "", "| o o", "wk wk wk wk s", -105, 4);
    }

    /** Terms: "then hypothesis by hypothesis -5 and -6", "(the first hypothesis that is not as it must be)". */
    private static void hypothesisByHypothesis(Due due) {
        due.of("Terms: of one step hypothesis by hypothesis -5 and -6");
        is(due, "", "| o o", "k bar wk bo s", -106, 4);
        is(due, "", "| o o", "k bo wk bar s", -105, 4);
        is(due, "", "| o o", "wk bar k bo s", -105, 4);
        is(due, "", "| o o", "wk bar wk bar s", -105, 4);
        is(due, "", "| o o", "k bar k bar s", -106, 4);
        is(due, "", "| o o", "k bo k bar s", -106, 4);
    }

    /** Terms: "then -7": behind -5 and -6. */
    private static void hypothesesAreBeforePairs(Due due) {
        due.of("Terms: of one step -5 and -6 are before -7");
        is(due, "h $e | c $. ", "| c c", "tc tc h dd", -107, 3);
        is(due, "h $e | c $. ", "| c c", "tc tc bo dd", -106, 3);
        is(due, "h $e | c $. ", "| c c", "tc wk h dd", -105, 3);
        is(due, "h $e | c $. $d c e $. ", "| c e", "tc te h dd", 0, 4);
    }

    /** Terms: "then -10": behind -7. */
    private static void pairsAreBeforeTooMuch(Due due) {
        due.of("Terms: of one step -7 is before -10");
        is(due, "", "| a", LONG + "ta x4 x4 d", -107, 17);
        is(due, "$d a c $. ", "| a", LONG + "tc x4 x4 d", -110, 17);
        is(due, "", "| a", LONG + "tc x4 x4 d", -107, 17);
    }

    /** Terms: -10 is behind -5 and -6, too. */
    private static void hypothesesAreBeforeTooMuch(Due due) {
        due.of("Terms: of one step -5 and -6 are before -10");
        is(due, "", "| a", LONG + "bo lg", -106, 15);
        is(due, "h $e | a a a a a a a a a a a a a a a a $. ", "| a", "ta x4 x4 h lg", -109, 5);
        is(due, "", "t a", LONG + LONG + "wk s", -104, 29);
        is(due, "", "t a", LONG + "wk pr", -105, 15);
        is(due, "", "t a", "wk " + LONG + "pr", -105, 15);
    }
}
