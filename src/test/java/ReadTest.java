/** Promises 3 and 4: what a text may be, its faults and where they are. Limits have a test of their own. */
public final class ReadTest {
    private static final String T = "$c t u $. $v a b $. fa $f t a $. ";

    public static void main(String[] args) {
        Due due = new Due();
        rightOnes(due);
        wrongBytes(due);
        endings(due);
        grammar(due);
        comments(due);
        labels(due);
        declarations(due);
        symbols(due);
        order(due);
        state(due);
        due.end();
    }

    private static void rightOnes(Due due) {
        due.book("", 0);
        due.book(" \t\n\f\r", 0);
        due.book("$( $)", 0);
        due.book("${ $}", 0);
        due.book("${ ${ $} ${ $} $}", 0);
        due.book("$c\tt\n$.\fx\r$a t $.", 1);
        due.book(T + "e $e t $. x $a t a t $. p $p u $= $.", 4);
        due.book(T + "A-b_C.9 $a t $. - $a t $. . $a t $. _ $a t $.", 5);
        due.book("$c ! ~ ( ) ? @ $. x $a ! ~ ( ) ? @ $.", 1);
        due.book("$v a $. $v b $. $d a b $. $d b a $. $d a b $.", 0);
        due.book("$c t $. AZ-az.09_ $a t $.", 1);
        due.book("$v a $. $c t $. f $f t a $. x $a t a $.", 2);
        due.book(T + "x $a t $. fb $f t b $. y $a t b $.", 4);
        due.is("kind of fb", due.x.statement(2, 0), 0);
    }

    private static void wrongBytes(Due due) {
        due.fault("\u0001", 1, 0);
        due.fault("$c t\u000b $.", 1, 3);
        due.fault("$c  t\u007f $.", 1, 4);
        due.fault("$c t\u00a0 $.", 1, 3);
        due.fault("$c \u00fft $.", 1, 3);
        due.fault("$( ab\u0080c $)", 1, 3);
        due.fault("$( $)\u0002", 1, 3);
        due.fault("$x\u0002", 1, 0);
        due.fault("$c ~ ! $. \u001f", 1, 10);
    }

    private static void endings(Due due) {
        String[] open = {"$(", "$( $( ", "$c", "$c t", "$v", "$v a ", "$d", "x", "x $a", "${", "${ ${ $}", "${ $( $)",
            T + "x $f", T + "x $f t", T + "x $f t b", T + "x $e t a", T + "x $p t a", T + "x $p t a $=",
            T + "x $p t a $= fa  ", T + "$d a", T + "$d a b \n", T + "x $a t $( $. $)", T + "${ x $a t $."};
        for (String text : open) {
            if (text.equals("$( $( ")) {
                due.fault(text, 3, 3);
            } else {
                due.fault(text, 2, text.length());
            }
        }
    }

    private static void grammar(Due due) {
        String[] places = {"#$.", "#$=", "#$f", "#$e", "#$a", "#$p", "#$}", "#$[", "#$]", "#$)", "#$", "#$$", "#$ab",
            "#$cc", "#a$b", "#c$", "#$C", "#$c$.", "$c #$.", "$c #$c", "$c t #$v", "$c t #${", "$c t #$}", "$c t #$=",
            "$c t #u$ $.", "$v #$.", "$v a #$v", "$v a #$(x", "$d #$.", T + "$d a #$.", T + "$d a b #$d", T + "x #$.",
            T + "x #$c", T + "x #$=", T + "x #y", T + "x #${", T + "x #$x", T + "x $f #$.", T + "x $f t #$.",
            T + "x $f t b #t", T + "x $f t b #zz", T + "x $f t b #$=", T + "x $e #$.", T + "x $e t #$=",
            T + "x $e t #$e", T + "x $a #$.", T + "x $a #$=", T + "x $a t #$=", T + "x $a t #$a", T + "x $p #$.",
            T + "x $p #$=", T + "x $p t #$.", T + "x $p t #$p", T + "x $p t $= #$=", T + "x $p t $= fa #$p",
            T + "x $p t $= fa #f$", T + "x $p t $= fa #$}", "${ #$c t $. $}", "${ ${ $} #$c t $. $}", "${ $} #$}",
            "${ $v a $. $} #$}"};
        for (String text : places) {
            due.faultAt(text, 3);
        }
    }

    private static void comments(Due due) {
        String in = " $( $c $v x $[ $ a$b $) ";
        due.book(in + "$c" + in + "t" + in + "$." + in + "x" + in + "$p" + in + "t" + in + "$=" + in + "x" + in
            + "$." + in, 1);
        due.is("tokens of its proof", due.x.statement(0, 5), 1);
        due.book("$( $) $( $)", 0);
        due.faultAt("$( #$(", 3);
        due.faultAt("$( #$)x $)", 3);
        due.faultAt("$( #x$) $)", 3);
        due.faultAt("$( #x$(y $)", 3);
        due.faultAt("$( #$$) $)", 3);
        due.faultAt("$( #$)$) $)", 3);
        due.faultAt("#$($)", 3);
        due.faultAt("$( $) #$)", 3);
        due.faultAt("#x$( $)", 3);
        due.faultAt("$c t #$)", 3);
        due.faultAt("$( #$(\u0001", 1);
        due.fault("$( $c t $.", 2, 10);
    }

    private static void labels(Due due) {
        due.faultAt(T + "#x! $a t $.", 4);
        due.faultAt(T + "#x/y $a t $.", 4);
        due.faultAt(T + "#? $a t $.", 4);
        due.faultAt(T + "#( $a t $.", 4);
        due.faultAt(T + "#@", 4);
        due.faultAt(T + "#` $a t $.", 4);
        due.faultAt(T + "#[ $a t $.", 4);
        due.faultAt(T + "#{ $a t $.", 4);
        due.faultAt(T + "#: $a t $.", 4);
        due.faultAt(T + "#t $a t $.", 4);
        due.faultAt(T + "#a $a t $.", 4);
        due.faultAt(T + "#fa $a t $.", 4);
        due.faultAt(T + "${ x $e t $. $} #x $a t $.", 4);
        due.faultAt("$c t $. ${ $v q $. $} #q $a t $.", 4);
        due.faultAt(T + "x $p t $= $. #x $p t $= $.", 4);
        due.book(T + "Fa $a t $. faa $a t $. f $a t $.", 4);
    }

    private static void declarations(Due due) {
        due.faultAt("$c t #t $.", 5);
        due.faultAt("$c t $. $c u #t $.", 5);
        due.faultAt("$v t #t $.", 5);
        due.faultAt("$c t $. $v #t $.", 5);
        due.faultAt("$v t $. $c #t $.", 5);
        due.faultAt("${ $v t $. $} $c #t $.", 5);
        due.faultAt("$v t $. ${ $v #t $. $}", 5);
        due.faultAt("$c t $. x $a t $. $c #x $.", 5);
        due.faultAt("$c t $. x $a t $. $v #x $.", 5);
        due.faultAt("$c t $. ${ x $e t $. $} ${ $v #x $. $}", 5);
        due.book("${ $v t $. $} ${ $v s t $. $} $v t $. $c u $.", 0);
        due.is("symbols, t being one", due.x.count(0), 3);
        due.is("symbol 0", due.name(0, 0), "t");
        due.is("symbol 1", due.name(0, 1), "s");
        due.is("symbol 2", due.name(0, 2), "u");
    }

    private static void symbols(Due due) {
        due.faultAt(T + "$d #x a $.", 6);
        due.faultAt(T + "$d a #t $.", 6);
        due.faultAt(T + "$d a #fa $.", 6);
        due.faultAt(T + "$d a b #a $.", 6);
        due.faultAt("${ $v q $. $} $v r $. $d r #q $.", 6);
        due.faultAt(T + "x $f #a b $.", 6);
        due.faultAt(T + "x $f #zz b $.", 6);
        due.faultAt(T + "x $f #fa b $.", 6);
        due.faultAt(T + "x $f t #t $.", 6);
        due.faultAt(T + "x $f t #a $.", 6);
        due.faultAt(T + "x $f u #a $.", 6);
        due.faultAt(T + "x $f t #zz $.", 6);
        due.faultAt("$c t $. ${ $v q $. $} x $f t #q $.", 6);
        due.book("$c t $. $v q $. ${ x $f t q $. $} y $f t q $. z $a t q $.", 3);
        for (String kind : new String[] {"$e", "$a", "$p"}) {
            due.faultAt(T + "x " + kind + " #a $.", 6);
            due.faultAt(T + "x " + kind + " #zz $.", 6);
            due.faultAt(T + "x " + kind + " #x $.", 6);
            due.faultAt(T + "x " + kind + " t #b $.", 6);
            due.faultAt(T + "x " + kind + " t a #zz $.", 6);
            due.faultAt(T + "x " + kind + " t a #fa $.", 6);
            due.faultAt("$c t $. $v q $. ${ y $f t q $. $} x " + kind + " t #q $.", 6);
            due.faultAt("$c t $. ${ $v q $. y $f t q $. $} $v q $. x " + kind + " t #q $.", 6);
        }
    }

    private static void order(Due due) {
        due.faultAt("#$x\u0001 $c", 1);
        due.faultAt("$c t #t $c", 5);
        due.faultAt(T + "#t! $a \u0001", 4);
        due.faultAt("$c t $. $v q $. $d q #q \u0001", 6);
    }

    private static void state(Due due) {
        due.book(T + "x $a t a $.", 2);
        due.feed("$c t $. y $a t");
        due.is("a faulty text", due.x.read(), -2);
        due.is("place", due.x.place(), 14);
        due.is("statements stay", due.x.count(1), 2);
        due.is("symbols stay", due.x.count(0), 4);
        due.is("label stays", due.name(1, 1), "x");
        due.is("symbol stays", due.x.symbol(1, 1), 2);
        due.is("hypothesis stays", due.x.frame(1, 0, 0), 0);
        due.is("the text is empty", due.x.count(2), 0);
        due.feed("$c one two $.");
        due.is("another book", due.x.read(), 0);
        due.is("its symbols", due.x.count(0), 2);
        due.is("its statements", due.x.count(1), 0);
        due.is("its name", due.name(0, 1), "two");
        due.feed("t $.");
        due.is("faulty again", due.x.read(), -3);
        due.is("place", due.x.place(), 2);
        due.is("name stays", due.name(0, 1), "two");
        due.is("an empty text", due.x.read(), 0);
        due.is("place", due.x.place(), 0);
        due.is("an empty book", due.x.count(0), 0);
        due.feed("$v a b $.");
        due.is("variables", due.x.read(), 0);
        due.feed("$c a b $. $d a b $.");
        due.is("constants that were variables in another book", due.x.read(), -6);
        due.is("place", due.x.place(), 13);
        due.feed("$c a b $. f $f a b $.");
        due.is("constants that were variables in another book", due.x.read(), -6);
        due.is("place", due.x.place(), 17);
    }
}
