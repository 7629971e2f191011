/** Terms, FAULTS of the text: each of 1 to 6, where it is, and which one of two is told. 7 is LimitTest's. */
public final class FaultEdgesTest {
    private static final String T = "$c t u $. $v a b $. fa $f t a $. ";
    // Where a text may end, but should not: within a statement of each kind, at each of its tokens.
    private static final String[] CUT = {"$c", "$c t", "$c t u", "$v", "$v a", "$v a b", T + "$d", T + "$d a",
        T + "$d a b", "x", T + "x $f", T + "x $f t", T + "x $f t b", T + "x $e", T + "x $e t", T + "x $e t a",
        T + "x $a", T + "x $a t", T + "x $a t a", T + "x $p", T + "x $p t", T + "x $p t a", T + "x $p t a $=",
        T + "x $p t a $= fa", T + "x $p t a $= ( ) A"};

    public static void main(String[] args) {
        Due due = new Due();
        all(due);
        due.end();
    }

    static void all(Due due) {
        firstFromTheBeginning(due);
        atTheFirstByte(due);
        bytesBelowAndAbove(due);
        bytesInAComment(due);
        endWithinAComment(due);
        endWithinAStatement(due);
        endWithinABlock(due);
        endAtTheTextsLength(due);
        behindALabel(due);
        keywordsWhereNoneMay(due);
        keywordsOutside(due);
        constantsInABlock(due);
        blockEndWithoutOne(due);
        tokensWithDollar(due);
        commentMarksInAComment(due);
        labelIsNone(due);
        labelOfAnother(due);
        labelIsASymbol(due);
        declaredAlready(due);
        declaredIsALabel(due);
        constantThatWasAVariable(due);
        apartNoActiveVariable(due);
        apartTwice(due);
        floatingConstant(due);
        floatingVariable(due);
        firstIsNoConstant(due);
        otherIsNeither(due);
        orderOneFirst(due);
        orderThreeBeforeOthers(due);
        orderSevenBeforeOthers(due);
    }

    /** Terms: "FAULTS of the text, the first one from its beginning on". */
    private static void firstFromTheBeginning(Due due) {
        due.of("Terms: the first fault from the text's beginning on");
        due.faultAt("$c t #t \u0001 $c", 5);
        due.faultAt("$c t $. #x! $a \u0001", 4);
        due.faultAt("$v q $. $d q #q \u0001 $(", 6);
        due.faultAt("#$. \u0001", 3);
        due.faultAt("$( #\u0001 $) $.", 1);
        due.faultAt("$c t $. x $a #y z $. $}", 6);
        due.faultAt(Due.times(16, "${ ") + "#${ \u0001", 7);
        due.faultAt("$c t $. #t $e t", 4);
    }

    /** Terms: "at the first byte of its token". */
    private static void atTheFirstByte(Due due) {
        due.of("Terms: a fault is at the first byte of its token");
        due.faultAt("#abc\u0001def", 1);
        due.faultAt("  \n #abcdef$", 3);
        due.faultAt("$c ttt $.\t#ttt $a ttt $.", 4);
        due.faultAt("$c ttt \r\n #ttt", 5);
        due.faultAt("$c ttt $. x $a    #uuu", 6);
        due.faultAt("$(   #xyz$)", 3);
        due.faultAt("$(   #xyz\u007f", 1);
    }

    /** Terms: "1 a token with a byte below 33 or above 126". */
    private static void bytesBelowAndAbove(Due due) {
        due.of("Terms: 1 a token with a byte below 33 or above 126");
        for (int b = 1; b < 256; b++) {
            boolean blank = b == 9 || b == 10 || b == 12 || b == 13 || b == 32;
            if (blank || b >= 33 && b <= 126) {
                continue;
            }
            char c = (char) b;
            due.faultAt("#" + c, 1);
            due.faultAt("$c #" + c + "t $.", 1);
            due.faultAt("$c t $. #x" + c + " $a t $.", 1);
            due.faultAt("$c t $. x $p t $= y #y" + c + "z $.", 1);
            due.faultAt("$c t #$." + c, 1);
        }
        due.book("$c ! ~ $. x $p ! ~ $= ! ~ $.", 1);
    }

    /** Terms: 1 "(in a comment, too)". */
    private static void bytesInAComment(Due due) {
        due.of("Terms: 1 in a comment, too");
        for (char c : new char[] {1, 8, 11, 14, 31, 127, 128, 255}) {
            due.faultAt("$( #a" + c + "b $)", 1);
            due.faultAt("$( a #$)" + c, 1);
            due.faultAt("#$(" + c + " $)", 1);
            due.faultAt("$c t $( #" + c + " $) $.", 1);
        }
        due.book("$( ! ~ $)", 0);
    }

    /** Terms: "2 the text ends within a comment". */
    private static void endWithinAComment(Due due) {
        due.of("Terms: 2 the text ends within a comment");
        for (String text : new String[] {"$(", "$( ", "$( a b", "$( $) $(", "$c t $. $( $c", "$c t $( $. ", "${ $( $}"}) {
            due.fault(text, 2, text.length());
        }
    }

    /** Terms: "2 the text ends within .. a statement". */
    private static void endWithinAStatement(Due due) {
        due.of("Terms: 2 the text ends within a statement");
        for (String text : CUT) {
            due.fault(text, 2, text.length());
            due.fault(text + " $( $. $)", 2, text.length() + 9);
        }
    }

    /** Terms: "2 the text ends within .. a block". */
    private static void endWithinABlock(Due due) {
        due.of("Terms: 2 the text ends within a block");
        for (String text : new String[] {"${", "${ ${ $}", "${ $( $)", T + "${ x $a t $.", "${ $v a b $. $d a b $."}) {
            due.fault(text, 2, text.length());
            due.book(text + " $}", text.startsWith(T) ? 2 : 0);
        }
    }

    /** Terms: "(the text's length for 2)": with all that is behind its last token. */
    private static void endAtTheTextsLength(Due due) {
        due.of("Terms: 2 is at the text's length");
        for (String text : CUT) {
            due.fault(text + " \t\r\n\f ", 2, text.length() + 6);
        }
        due.fault("${    ", 2, 6);
        due.fault("$( x  ", 2, 6);
    }

    /** Terms: 3 "(a LABEL is any token without $ there; behind it $f $e $a or $p must come)". */
    private static void behindALabel(Due due) {
        due.of("Terms: 3 behind a LABEL $f $e $a or $p must come");
        String[] wrong = {"$c", "$v", "$d", "$=", "$.", "${", "$}", "y", "x", "t", "!", "$x", "$)"};
        for (String token : wrong) {
            due.faultAt(T + "x #" + token, 3);
        }
        for (String token : new String[] {"$f", "$e", "$a", "$p"}) {
            due.fault("x " + token, 2, 4);
        }
        // The LABEL itself is looked at before what is behind it.
        due.faultAt(T + "#! !", 4);
    }

    /** Terms: 3 "by the book's grammar, as far as KEYWORDS and other tokens go": within each statement. */
    private static void keywordsWhereNoneMay(Due due) {
        due.of("Terms: 3 KEYWORDS within a statement");
        String all = "cvfedap=.{}";
        String[] heads = {"$c ", "$c q ", "$v ", "$v q ", T + "$d ", T + "$d a ", T + "$d a b ", T + "x $f ",
            T + "x $f t ", T + "x $f t b ", T + "x $e ", T + "x $e t ", T + "x $a ", T + "x $a t a ", T + "x $p ",
            T + "x $p t ", T + "x $p t a $= ", T + "x $p t a $= fa "};
        String[] may = {"", ".", "", ".", "", "", ".", "", "", ".", "", ".", "", ".", "", "=", ".", "."};
        for (int i = 0; i < heads.length; i++) {
            for (char c : all.toCharArray()) {
                if (may[i].indexOf(c) < 0) {
                    due.faultAt(heads[i] + "#$" + c, 3);
                }
            }
        }
    }

    /** Terms: 3 by the book's grammar, where a statement or a block may begin. */
    private static void keywordsOutside(Due due) {
        due.of("Terms: 3 KEYWORDS outside of statements");
        for (String token : new String[] {"$f", "$e", "$a", "$p", "$=", "$."}) {
            due.faultAt("#" + token, 3);
            due.faultAt("${ #" + token, 3);
            due.faultAt(T + "#" + token, 3);
        }
    }

    /** Terms: 3 "$c in a block". */
    private static void constantsInABlock(Due due) {
        due.of("Terms: 3 $c in a block");
        due.faultAt("${ #$c t $. $}", 3);
        due.faultAt("${ ${ #$c", 3);
        due.faultAt("${ ${ $} #$c t $. $}", 3);
        due.book("${ $} $c t $. ${ $} $c u $.", 0);
    }

    /** Terms: 3 "$} without one". */
    private static void blockEndWithoutOne(Due due) {
        due.of("Terms: 3 $} without a block");
        due.faultAt("#$}", 3);
        due.faultAt("${ $} #$}", 3);
        due.faultAt("${ ${ $} $} #$}", 3);
        due.faultAt("$c t $. #$}", 3);
    }

    /** Terms: 3 "$[ , $] , or another token with $ that is no KEYWORD". */
    private static void tokensWithDollar(Due due) {
        due.of("Terms: 3 another token with $");
        String[] heads = {"", "${ ", "$c ", "$v q ", T + "$d a ", T + "x ", T + "x $f ", T + "x $e t ", T + "x $a t ",
            T + "x $p t ", T + "x $p t $= "};
        String[] tokens = {"$[", "$]", "$)", "$", "$$", "$cc", "$C", "a$", "$a$", "$c$.", "t$t", "$(x", "x$(", "$..", "$1"};
        for (String head : heads) {
            for (String token : tokens) {
                due.faultAt(head + "#" + token, 3);
            }
        }
    }

    /** Terms: 3 "in a comment a token that has $( or $) within (but the $) that ends it)". */
    private static void commentMarksInAComment(Due due) {
        due.of("Terms: 3 $( or $) within a token of a comment");
        for (String token : new String[] {"$(", "a$(", "$(a", "a$(b", "a$)", "$)a", "a$)b", "$$)", "$$(", "$)$)", "$($)",
            "$)(", "((($((("}) {
            due.faultAt("$( #" + token + " $)", 3);
            due.faultAt("$( x y #" + token, 3);
            due.faultAt("$c t $( #" + token + " $) $.", 3);
        }
        due.book("$( $ $$ ( ) $[ $] $c $x a$b (x) $-( -$ ) $)", 0);
    }

    /** Terms: "4 in the place of a LABEL: it is none". */
    private static void labelIsNone(Due due) {
        due.of("Terms: 4 it is no LABEL");
        for (char c : "!\"#%&'()*+,/:;<=>?@[\\]^`{|}~".toCharArray()) {
            due.faultAt(T + "#" + c + " $a t $.", 4);
            due.faultAt(T + "#x" + c + "y", 4);
        }
        due.book(T + "azAZ09.-_ $a t $.", 2);
    }

    /** Terms: 4 "another statement has it". */
    private static void labelOfAnother(Due due) {
        due.of("Terms: 4 another statement has the LABEL");
        due.faultAt(T + "#fa $a t $.", 4);
        due.faultAt(T + "x $a t $. #x $a t $.", 4);
        due.faultAt(T + "x $p t $= $. #x $e t $.", 4);
        due.faultAt(T + "${ x $e t $. $} #x $a t $.", 4);
        due.faultAt(T + "${ x $f t b $. $} #x $f t b $.", 4);
        due.book(T + "x $a t $. X $a t $. xx $a t $.", 4);
        // A label that is only named, in a proof, is no statement's.
        due.book(T + "x $p t $= y $. y $a t $.", 3);
    }

    /** Terms: 4 "it is a declared symbol", also one that is no longer active. */
    private static void labelIsASymbol(Due due) {
        due.of("Terms: 4 the LABEL is a declared symbol");
        due.faultAt(T + "#t $a t $.", 4);
        due.faultAt(T + "#b $a t $.", 4);
        due.faultAt("$c t $. ${ $v q $. $} #q $a t $.", 4);
        due.faultAt("$c t $. ${ $v q $. #q $a t $. $}", 4);
        due.book("$c t $. q $a t $. ${ $v r $. $}", 1);
    }

    /** Terms: "5 in $c, $v: what is a constant, or an active variable". */
    private static void declaredAlready(Due due) {
        due.of("Terms: 5 a constant or an active variable");
        due.faultAt("$c q #q $.", 5);
        due.faultAt("$c q $. $c r #q $.", 5);
        due.faultAt("$c q $. $v #q $.", 5);
        due.faultAt("$v q #q $.", 5);
        due.faultAt("$v q $. $c #q $.", 5);
        due.faultAt("$v q $. ${ $v #q $. $}", 5);
        due.book("$c q $. $v r $. $c Q qq $. $v R rr $.", 0);
    }

    /** Terms: 5 "or a label of a statement before". */
    private static void declaredIsALabel(Due due) {
        due.of("Terms: 5 a label of a statement before");
        for (String keyword : new String[] {"$c", "$v"}) {
            due.faultAt(T + keyword + " #fa $.", 5);
            due.faultAt("$c t $. x $a t $. " + keyword + " y #x $.", 5);
            due.faultAt("$c t $. ${ x $e t $. $} " + keyword + " #x $.", 5);
            due.faultAt("$c t $. x $p t $= $. " + keyword + " #x $.", 5);
            due.book("$c t $. " + keyword + " x $. y $p t $= z $. " + keyword + " z $.", 1);
        }
    }

    /** Terms: 5 "in $c what was ever a variable". */
    private static void constantThatWasAVariable(Due due) {
        due.of("Terms: 5 in $c what was ever a variable");
        due.faultAt("${ $v q $. $} $c #q $.", 5);
        due.faultAt("${ ${ $v q $. $} $} $c r #q $.", 5);
        due.book("${ $v q $. $} $c r $. $v q $.", 0);
    }

    /** Terms: "6 in $d: what is no active variable". */
    private static void apartNoActiveVariable(Due due) {
        due.of("Terms: 6 in $d what is no active variable");
        for (String token : new String[] {"t", "zz", "fa", "!"}) {
            due.faultAt(T + "$d #" + token + " a $.", 6);
            due.faultAt(T + "$d a #" + token + " $.", 6);
            due.faultAt(T + "$d a b #" + token + " $.", 6);
        }
        due.faultAt("$v r $. ${ $v q $. $} $d r #q $.", 6);
        // It need not have a $f.
        due.book("$v r $. ${ $v q $. $d r q $. $}", 0);
    }

    /** Terms: 6 in $d "what .. stands in this $d already". */
    private static void apartTwice(Due due) {
        due.of("Terms: 6 what stands in this $d already");
        String head = "$v a b c $. ";
        due.faultAt(head + "$d a #a $.", 6);
        due.faultAt(head + "$d a b #a $.", 6);
        due.faultAt(head + "$d a b #b $.", 6);
        due.faultAt(head + "$d a b c #b $.", 6);
        due.book(head + "$d a b $. $d a b $. $d b a c $.", 0);
    }

    /** Terms: 6 "In $f: the first one is no constant". */
    private static void floatingConstant(Due due) {
        due.of("Terms: 6 in $f the first one is no constant");
        for (String token : new String[] {"a", "b", "zz", "fa", "x", "!"}) {
            due.faultAt(T + "x $f #" + token + " b $.", 6);
        }
        due.faultAt("${ $v q $. $} $v r $. x $f #q r $.", 6);
        due.book(T + "x $f u b $.", 2);
    }

    /** Terms: 6 in $f "the second one no active variable, or an active $f is of it". */
    private static void floatingVariable(Due due) {
        due.of("Terms: 6 in $f the second one");
        for (String token : new String[] {"t", "zz", "fa", "x", "a"}) {
            due.faultAt(T + "x $f t #" + token + " $.", 6);
        }
        due.faultAt(T + "x $f u #a $.", 6);
        due.faultAt(T + "${ x $f t #a $. $}", 6);
        due.faultAt("$c t $. ${ $v q $. $} x $f t #q $.", 6);
        due.book("$c t $. $v q $. ${ x $f t q $. $} y $f t q $.", 2);
    }

    /** Terms: 6 "In $e $a $p: the first one is no constant". */
    private static void firstIsNoConstant(Due due) {
        due.of("Terms: 6 in $e $a $p the first one is no constant");
        for (String kind : new String[] {"$e", "$a", "$p"}) {
            for (String token : new String[] {"a", "b", "zz", "fa", "x", "!"}) {
                due.faultAt(T + "x " + kind + " #" + token, 6);
            }
        }
    }

    /** Terms: 6 "another one neither a constant nor an active variable of which an active $f is". */
    private static void otherIsNeither(Due due) {
        due.of("Terms: 6 in $e $a $p another one");
        for (String kind : new String[] {"$e", "$a", "$p"}) {
            String end = kind.equals("$p") ? " $= $." : " $.";
            due.book(T + "x " + kind + " t a u a t" + end, 2);
            for (String token : new String[] {"b", "zz", "fa", "x", "!"}) {
                due.faultAt(T + "x " + kind + " t #" + token, 6);
                due.faultAt(T + "x " + kind + " t a t #" + token, 6);
            }
            due.faultAt("$c t $. $v q $. ${ y $f t q $. $} x " + kind + " t #q", 6);
            due.faultAt("$c t $. ${ $v q $. y $f t q $. $} x " + kind + " t #q", 6);
            due.faultAt("$c t $. ${ $v q $. y $f t q $. $} $v q $. x " + kind + " t #q", 6);
            due.faultAt("$c t $. $v q $. x " + kind + " t #q" + end + " y $f t q $.", 6);
        }
    }

    private static String full(int statements) {
        StringBuilder all = new StringBuilder("$c t $. ");
        for (int i = 0; i < statements; i++) {
            all.append('s').append(i).append(" $a t $. ");
        }
        return all.toString();
    }

    /** Terms: "a token is looked at for them in the order 1, 3, 7, 4, 5, 6": 1 before all others. */
    private static void orderOneFirst(Due due) {
        due.of("Terms: 1 is before 3, 7, 4 and 6");
        due.faultAt("#$x\u0001", 1);
        due.faultAt("$( #$(\u0001", 1);
        due.faultAt("$( #x$)\u007f", 1);
        due.faultAt("x #\u0001", 1);
        due.faultAt(full(200) + "#x\u0001 $a t $.", 1);
        due.faultAt("$c " + Due.row("c", 0, 300) + "#x\u0080 $.", 1);
        due.faultAt("$c t $. x $a " + Due.times(60, "t ") + "#t\u0001", 1);
        due.faultAt("$c t $. x $p t $= " + Due.times(400, "z ") + "#z\u0001", 1);
        due.faultAt("$c t $. #x!\u0001 $a t $.", 1);
        due.faultAt("$c t $. x $a t #y\u0001 $.", 1);
        due.faultAt("$v a $. $d a #y\u0001 $.", 1);
    }

    /** Terms: "in the order 1, 3, 7, 4, 5, 6": 3 before 7, 4, 5 and 6. */
    private static void orderThreeBeforeOthers(Due due) {
        due.of("Terms: 3 is before 7, 4, 5 and 6");
        due.faultAt(full(200) + "#x$ $a t $.", 3);
        due.faultAt(full(200) + "#$a", 3);
        due.faultAt("$c " + Due.row("c", 0, 300) + "#x$ $.", 3);
        due.faultAt("$c t $. x $a " + Due.times(60, "t ") + "#t$", 3);
        due.faultAt("$c t $. x $p t $= " + Due.times(400, "z ") + "#z$", 3);
        due.faultAt("$v " + Due.row("v", 0, 8) + "$. $d " + Due.row("v", 0, 8) + "#$d", 3);
        due.faultAt(Due.times(16, "${ ") + "$v a #${", 3);
        due.faultAt("$c t $. #x!$y $a t $.", 3);
        due.faultAt("$c t #$t $.", 3);
        due.faultAt(T + "x $f t b #zz $.", 3);
        due.faultAt(T + "x $a t #z$ $.", 3);
        due.faultAt(T + "x #x $.", 3);
    }

    /** Terms: "in the order 1, 3, 7, 4, 5, 6": 7 before 4, 5 and 6. */
    private static void orderSevenBeforeOthers(Due due) {
        due.of("Terms: 7 is before 4, 5 and 6");
        due.faultAt(full(200) + "#! $a t $.", 7);
        due.faultAt(full(200) + "#s0 $a t $.", 7);
        due.faultAt(full(200) + "#t $a t $.", 7);
        due.faultAt("$c " + Due.row("c", 0, 300) + "$. x $a c0 $. $c #x $.", 7);
        due.faultAt("$c t $. x $a " + Due.times(60, "t ") + "#zz", 7);
        due.faultAt("$c t $. x $e " + Due.times(60, "t ") + "#zz", 7);
        due.faultAt("$c t $. x $p " + Due.times(60, "t ") + "#zz", 7);
        due.faultAt("$v " + Due.row("v", 0, 8) + "$. $d " + Due.row("v", 0, 8) + "#v0", 7);
        due.faultAt("$v " + Due.row("v", 0, 8) + "$. $d " + Due.row("v", 0, 8) + "#zz", 7);
    }
}
