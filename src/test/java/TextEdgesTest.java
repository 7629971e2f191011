/** Terms: each sentence on THE TEXT, its tokens and the BOOK's grammar that names a bound or a refused case. */
public final class TextEdgesTest {
    private static final String T = "$c t u $. $v a b $. fa $f t a $. ";
    private static final int MOST = 8192;

    public static void main(String[] args) {
        Due due = new Due();
        all(due);
        due.end();
    }

    static void all(Due due) {
        longestText(due);
        blanks(due);
        noBlanks(due);
        rowsOfBlanks(due);
        commentEndsAtTheNext(due);
        commentMarksAreTokens(due);
        commentCountsForNothing(due);
        commentWhereverATokenMay(due);
        labels(due);
        symbols(due);
        keywords(due);
        atLeastOneDeclared(due);
        atLeastTwoApart(due);
        justTwoFloating(due);
        atLeastAConstant(due);
        anyNumberOfProofTokens(due);
        blocks(due);
        proofTokens(due);
    }

    /** Terms: "THE TEXT (the tape) has at most 8192 bytes". */
    private static void longestText(Due due) {
        due.of("Terms: THE TEXT has at most 8192 bytes");
        String text = "$c t $. x $a t $.";
        due.book(" ".repeat(MOST - text.length()) + text, 1);
        due.is("label", due.name(1, 0), "x");
        due.book(text + "\n".repeat(MOST - text.length()), 1);
        due.fault("x".repeat(MOST), 2, MOST);
        due.fault("!".repeat(MOST), 4, 0);
        due.fault("$c " + "s".repeat(MOST - 3), 2, MOST);
        String around = "$c t $.  $a t $.";
        due.book("$c t $. " + "x".repeat(MOST - around.length()) + " $a t $.", 1);
        due.is("the label's last byte", due.x.name(1, 0, MOST - around.length() - 1), 'x');
        due.is("behind it", due.x.name(1, 0, MOST - around.length()), -1);
        due.book("$( " + "x ".repeat((MOST - 6) / 2) + " $)", 0);
    }

    /** Terms: "TOKENS, rows of other bytes with BLANKS (9, 10, 12, 13, 32) between." */
    private static void blanks(Due due) {
        due.of("Terms: TOKENS with BLANKS between");
        for (char blank : new char[] {9, 10, 12, 13, 32}) {
            due.book("$c t u $. x $a t u $.".replace(' ', blank), 1);
            due.is("symbols", due.x.count(0), 2);
            due.is("label", due.name(1, 0), "x");
            due.is("name", due.name(0, 1), "u");
            due.book("" + blank, 0);
            due.book(("$( x $) $c t $. p $p t $= ( ) A" + blank + "B $.").replace(' ', blank), 1);
            due.is("tokens of the proof", due.x.statement(0, 5), 4);
        }
    }

    /** Terms: "BLANKS (9, 10, 12, 13, 32)", and no others: each other byte belongs to a token. */
    private static void noBlanks(Due due) {
        due.of("Terms: BLANKS are 9, 10, 12, 13, 32 alone");
        for (int b = 1; b < 256; b++) {
            if (b == 9 || b == 10 || b == 12 || b == 13 || b == 32) {
                continue;
            }
            boolean plain = b >= 33 && b <= 126;
            due.fault("$c" + (char) b + "t $.", plain ? 3 : 1, 0);
            if (plain && b != '$') {
                due.book("$c t" + (char) b + "t $.", 0);
                due.is("one symbol", due.x.count(0), 1);
            }
        }
    }

    /** Terms: "rows of other bytes with BLANKS .. between": more than one, before the first token, behind the last. */
    private static void rowsOfBlanks(Due due) {
        due.of("Terms: rows of BLANKS");
        due.book("", 0);
        due.book(" \t\n\f\r \t\n\f\r", 0);
        due.book("\r\n $c \t t\f\f$.\n\n\nx   $a t $.\r\n", 1);
        due.is("symbols", due.x.count(0), 1);
        due.faultAt("   #$.   ", 3);
    }

    /** Terms: "A COMMENT is a token $( and all tokens to the next token $), with it". */
    private static void commentEndsAtTheNext(Due due) {
        due.of("Terms: a COMMENT goes to the next $)");
        due.book("$( $)", 0);
        due.book("$( a $) $c t $. $( b $) x $a t $.", 1);
        due.is("symbols", due.x.count(0), 1);
        due.faultAt("$( a $) #$)", 3);
        due.faultAt("$( a $) b #$)", 3);
        due.fault("$( a $) $( b", 2, 12);
        due.book("$( a $) $( $)", 0);
    }

    /** Terms: "a token $(", "token $)": what only begins or ends so is another token. */
    private static void commentMarksAreTokens(Due due) {
        due.of("Terms: $( and $) are tokens of a COMMENT");
        due.faultAt("#$(a $)", 3);
        due.faultAt("#a$( $)", 3);
        due.faultAt("#$($)", 3);
        due.faultAt("#$(( $)", 3);
        due.faultAt("$( #a$)", 3);
        due.faultAt("$( #$)a $)", 3);
        due.book("$( ( ) $ ( $)", 0);
    }

    /** Terms: "it counts for nothing": neither as what it says, nor where tokens, symbols or bytes are counted. */
    private static void commentCountsForNothing(Due due) {
        due.of("Terms: a COMMENT counts for nothing");
        due.book("$( $c t $. x $a t $. ${ $[ $] $x $ $) ", 0);
        due.is("symbols", due.x.count(0), 0);
        String note = "$( c $) ";
        due.book("$c t $. x $a t " + (note + "t ").repeat(59) + "$.", 1);
        due.is("symbols of x", due.x.statement(0, 1), 60);
        due.book("$v " + Due.row("v", 0, 8) + "$. $d " + Due.row(note + "v", 0, 8) + "$.", 0);
        due.book("$c t $. x $p t $= " + (note + "z ").repeat(400) + "$.", 1);
        due.is("tokens of x", due.x.statement(0, 5), 400);
        due.check(T, "p $p t a $= $( ? $) fa $( ? $) $.", 0, 1);
        due.check(T, "p $p t a $= $( fa $) $.", -101, 0);
        due.check(T, "p $p t a $= $( ( $) fa zz $.", -102, 1);
        due.check(T, "p $p t a $= ( $( ) $) ) $( B $) A $( ?! $) A! $.", -103, 2);
        due.check(T, "p $p t a $= ( ) $( A $) A $( A $) $.", 0, 1);
    }

    /** Terms: a COMMENT "may come wherever a token may, and behind the last one". */
    private static void commentWhereverATokenMay(Due due) {
        due.of("Terms: a COMMENT may come wherever a token may");
        String[] tokens = (T + "${ $d a b $. e $e t $. $} x $a t a $. p $p t a $= ( x ) AB $.").split(" ");
        for (int i = 0; i <= tokens.length; i++) {
            StringBuilder text = new StringBuilder();
            for (int j = 0; j <= tokens.length; j++) {
                text.append(j == i ? "$( $. z $) " : "").append(j < tokens.length ? tokens[j] + " " : "");
            }
            due.book(text.toString().trim(), 4);
            due.is("check", due.x.check(3), 0);
        }
    }

    /** Terms: "LABELS are tokens of letters, digits, . - _ alone". */
    private static void labels(Due due) {
        due.of("Terms: LABELS are of letters, digits, . - _ alone");
        for (char c = 33; c <= 126; c++) {
            boolean may = Character.isLetterOrDigit(c) || c == '.' || c == '-' || c == '_';
            for (String label : new String[] {"" + c, "x" + c, c + "x", "x" + c + "x"}) {
                if (may) {
                    due.book("$c tt $. " + label + " $a tt $.", 1);
                    due.is("label", due.name(1, 0), label);
                } else {
                    due.faultAt("$c tt $. #" + label + " $a tt $.", c == '$' ? 3 : 4);
                }
            }
        }
    }

    /** Terms: "SYMBOLS tokens of bytes 33 .. 126 without $". */
    private static void symbols(Due due) {
        due.of("Terms: SYMBOLS are of bytes 33 .. 126 without $");
        for (char c = 33; c <= 126; c++) {
            for (String symbol : new String[] {"" + c, "x" + c, c + "x"}) {
                if (c == '$') {
                    due.faultAt("$c #" + symbol + " $.", 3);
                    due.faultAt("$v #" + symbol + " $.", 3);
                    continue;
                }
                due.book("$c " + symbol + " $. l1 $a " + symbol + " " + symbol + " $.", 1);
                due.is("name", due.name(0, 0), symbol);
                due.book("$c t1 $. $v " + symbol + " $. l1 $f t1 " + symbol + " $.", 1);
                due.is("name", due.name(0, 1), symbol);
            }
        }
        for (char c : new char[] {31, 127, 128, 255}) {
            due.faultAt("$c #x" + c + " $.", 1);
        }
    }

    /** Terms: "KEYWORDS are $c $v $f $e $d $a $p $= $. ${ $}", and a token with $ is one of them, or refused. */
    private static void keywords(Due due) {
        due.of("Terms: KEYWORDS");
        for (char c = 33; c <= 126; c++) {
            boolean begins = "cvd{(".indexOf(c) >= 0;
            due.fault("$" + c, begins ? 2 : 3, begins ? 2 : 0);
            boolean kind = "feap(".indexOf(c) >= 0;
            due.fault("x $" + c, kind ? 2 : 3, kind ? 4 : 2);
            due.faultAt("#" + c + "$", 3);
            due.faultAt("#$c" + c, 3);
            due.faultAt("#" + c + "$c", 3);
        }
        due.faultAt("#$", 3);
        due.faultAt("#$$", 3);
    }

    /** Terms: "$c SYMBOL {SYMBOL} $. ; $v SYMBOL {SYMBOL} $." with "{..} being any number of times, also none". */
    private static void atLeastOneDeclared(Due due) {
        due.of("Terms: $c and $v have a SYMBOL at least");
        for (String keyword : new String[] {"$c ", "$v "}) {
            due.faultAt(keyword + "#$.", 3);
            due.faultAt(keyword + "$( x $) #$.", 3);
            for (int n : new int[] {1, 2, 61, 300}) {
                due.book(keyword + Due.row("s", 0, n) + "$.", 0);
                due.is("symbols", due.x.count(0), n);
            }
        }
    }

    /** Terms: "$d VARIABLE VARIABLE {VARIABLE} $." */
    private static void atLeastTwoApart(Due due) {
        due.of("Terms: $d has two VARIABLES at least");
        String head = "$v a b c $. ";
        due.faultAt(head + "$d #$.", 3);
        due.faultAt(head + "$d a #$.", 3);
        due.book(head + "$d a b $.", 0);
        due.book(head + "$d a b c $.", 0);
    }

    /** Terms: "LABEL $f CONSTANT VARIABLE $." */
    private static void justTwoFloating(Due due) {
        due.of("Terms: $f has a CONSTANT and a VARIABLE, no more and no less");
        due.faultAt(T + "x $f #$.", 3);
        due.faultAt(T + "x $f t #$.", 3);
        due.book(T + "x $f t b $.", 2);
        due.faultAt(T + "x $f t b #a $.", 3);
        due.faultAt(T + "x $f t b #t $.", 3);
        due.faultAt(T + "x $f t b #zz $.", 3);
    }

    /** Terms: "LABEL $e CONSTANT {SYMBOL} $.", and so $a and $p. */
    private static void atLeastAConstant(Due due) {
        due.of("Terms: $e $a $p have a CONSTANT at least");
        for (String kind : new String[] {"$e ", "$a ", "$p "}) {
            String end = kind.equals("$p ") ? "$= $." : "$.";
            due.faultAt(T + "x " + kind + "#" + end, 3);
            due.book(T + "x " + kind + "t " + end, 2);
            due.is("symbols", due.x.statement(1, 1), 1);
            due.book(T + "x " + kind + "t a " + end, 2);
            due.is("symbols", due.x.statement(1, 1), 2);
        }
        due.faultAt(T + "x $e t #$= $.", 3);
        due.faultAt(T + "x $a t #$= $.", 3);
        due.faultAt(T + "x $p t #$.", 3);
        due.faultAt(T + "x $p t $= #$= $.", 3);
    }

    /** Terms: "LABEL $p CONSTANT {SYMBOL} $= {PROOF TOKEN} $." */
    private static void anyNumberOfProofTokens(Due due) {
        due.of("Terms: a proof may have no PROOF TOKEN");
        for (int n : new int[] {0, 1, 400}) {
            due.book("$c t $. x $p t $= " + "z ".repeat(n) + "$.", 1);
            due.is("tokens", due.x.statement(0, 5), n);
        }
    }

    /** Terms: "${ a row of these without $c $} , a BLOCK"; the row may be empty, and have blocks. */
    private static void blocks(Due due) {
        due.of("Terms: a BLOCK");
        due.book("${ $}", 0);
        due.book("${ ${ $} ${ ${ $} $} $} ${ $}", 0);
        due.book("$c t $. ${ $v a b $. $d a b $. f $f t a $. e $e t $. x $a t $. p $p t $= $. ${ $} $}", 4);
        due.faultAt("${ #$c t $. $}", 3);
        due.faultAt("${ ${ $} #$c t $. $}", 3);
        due.book("${ ${ $} $} $c t $.", 0);
        due.faultAt("#$}", 3);
        due.faultAt("${ $} #$}", 3);
        due.fault("${ ${ $}", 2, 8);
    }

    /** Terms: "A PROOF TOKEN is a token of bytes 33 .. 126 without $." */
    private static void proofTokens(Due due) {
        due.of("Terms: a PROOF TOKEN is of bytes 33 .. 126 without $");
        for (char c = 33; c <= 126; c++) {
            if (c == '$') {
                due.faultAt("$c t $. x $p t $= #a$ $.", 3);
                due.faultAt("$c t $. x $p t $= #$a $.", 3);
                continue;
            }
            due.book("$c t $. x $p t $= " + c + " a" + c + " $.", 1);
            due.is("tokens", due.x.statement(0, 5), 2);
        }
        for (char c : new char[] {31, 127, 128, 255}) {
            due.faultAt("$c t $. x $p t $= #a" + c + " $.", 1);
        }
    }
}
