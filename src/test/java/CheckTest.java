/** Promises 10 and 11: proofs that are right, and each fault of one, with its place. */
public final class CheckTest {
    private static final String HEAD = "$c t w | = ( ) , $. $v a b c P $. ta $f t a $. tb $f t b $. tc $f t c $. "
        + "wP $f w P $. k $a t = $. ab $a t ( a , b ) $. eq $a w a = b $. em $a t $. "
        + "${ h1 $e | P $. ${ h2 $e | a = b $. r $a | b = a $. $} s $a | ( P ) $. $} ";

    public static void main(String[] args) {
        Due due = new Due();
        rightOnes(due);
        noSuchThing(due);
        open(due);
        labels(due);
        running(due);
        substitution(due);
        distinct(due);
        ends(due);
        tooMuch(due);
        due.end();
    }

    private static void is(Due due, String statement, int answer, int step) {
        due.check(HEAD, statement, answer, step);
    }

    private static void rightOnes(Due due) {
        is(due, "p $p t a $= ta $.", 0, 1);
        is(due, "p $p t = $= k $.", 0, 1);
        is(due, "p $p t ( ( a , = ) , b ) $= ta k ab tb ab $.", 0, 5);
        is(due, "x $e | = $. y $e | a = ( b , b ) $. p $p | ( b , b ) = a $= ta tb tb ab ta tb eq x y r $.", -106, 9);
    }

    private static void noSuchThing(Due due) {
        due.book(HEAD + "p $p t a $= tb $. q $p t = $= k $.", 14);
        due.is("check(12)", due.x.check(12), -109);
        due.is("step()", due.x.step(), 1);
        for (int k : new int[] {-1, 0, 4, 8, 10, 11, 14, Integer.MIN_VALUE, Integer.MAX_VALUE}) {
            due.is("check(12)", due.x.check(12), -109);
            due.is("check(" + k + ")", due.x.check(k), -1);
            due.is("step()", due.x.step(), 0);
        }
        due.is("check(13)", due.x.check(13), 0);
        due.is("step()", due.x.step(), 1);
    }

    private static void open(Due due) {
        is(due, "p $p t a $= ? $.", 1, 0);
        is(due, "p $p t a $= zz ta ta ? zz $.", 1, 0);
        is(due, "p $p t a $= ( ? $.", 1, 0);
        is(due, "p $p t a $= ( zz ? ) $.", 1, 0);
        is(due, "p $p t a $= ( zz ) A ?A $.", 1, 0);
        is(due, "p $p t a $= ( ) ! zz A?B $.", 1, 0);
        is(due, "p $p t a $= ( a?b $.", -102, 1);
        is(due, "p $p t a $= ta a? $.", -102, 1);
        is(due, "p $p t a $= ta ) A? $.", -102, 1);
    }

    private static void labels(Due due) {
        is(due, "p $p t a $= $.", -101, 0);
        is(due, "p $p t a $= ta zz ta $.", -102, 1);
        is(due, "p $p t a $= p $.", -102, 0);
        is(due, "p $p t a $= q $. $( q comes later $)", -102, 0);
        is(due, "p $p t a $= t $.", -102, 0);
        is(due, "p $p t a $= ta h1 $.", -102, 1);
        is(due, "p $p t a $= ta ( $.", -102, 1);
        is(due, "p $p t a $= ab ab ab zz $.", -102, 3);
        is(due, "p $p t a $= ( tb ) A $.", 0, 1);
        is(due, "p $p t a $= ( tb ab ) ABC $.", -109, 3);
        is(due, "p $p t a $= ( k tb zz ) Z $.", -102, 3);
        is(due, "p $p t a $= ( k ta ) A $.", -102, 2);
        is(due, "p $p t a $= ( k tb k ) A $.", -102, 3);
        is(due, "p $p t a $= ( h2 ) A $.", -102, 1);
        is(due, "p $p t a $= ( p ) A $.", -102, 1);
        is(due, "p $p t a $= ( ( ) A $.", -102, 1);
        is(due, "x $e t a $. p $p t = $= ( x ) A $.", -102, 1);
        is(due, "${ x $e t a $. $} p $p t = $= ( x ) A $.", -102, 1);
        is(due, "p $p t a $= ( zz $.", -102, 1);
    }

    private static void running(Due due) {
        is(due, "p $p t a $= ab $.", -104, 0);
        is(due, "p $p t a $= ta ab $.", -104, 1);
        is(due, "p $p t a $= ta ta wP ab $.", -105, 3);
        is(due, "p $p t a $= ta wP ab $.", -105, 2);
        is(due, "p $p t a $= wP ta ab $.", -105, 2);
        is(due, "p $p t a $= ta tb ta ta ab r $.", -104, 5);
        is(due, "x $e | P $. y $e | a = a $. p $p t a $= ta ta wP y y r $.", -106, 5);
        is(due, "x $e | P $. y $e | a = b $. p $p t a $= ta ta wP x y r $.", -106, 5);
        is(due, "x $e | P $. y $e | a = b $. p $p t a $= wP tb wP x y r $.", -105, 5);
        is(due, "x $e | P $. y $e | a = b $. p $p | b = a $= ta tb wP x y r $.", 0, 6);
        is(due, "x $e | P $. y $e | a = b $. p $p | b = a $= ta tb ta x y r $.", -105, 5);
        is(due, "x $e | P $. y $e | a = b $. p $p | b = a $= ( r ) ABCDEF $.", 0, 6);
    }

    private static void substitution(Due due) {
        // Nothing may stand for a variable, and one thing for the same variable twice.
        is(due, "p $p t ( , ) $= em em ab $.", 0, 3);
        is(due, "x $e | = $. y $e | P $. p $p | = $= em em wP y x r $.", 0, 6);
        is(due, "x $e | = $. y $e | P $. p $p | = a $= ta em wP y x r $.", -106, 5);
        is(due, "y $e | a = a $. z $e | P $. p $p | = $= em ta wP z y r $.", -106, 5);
        is(due, "y $e | ( b , c ) = a $. z $e | P $. p $p | a = ( b , c ) $= tb tc ab ta wP z y r $.", 0, 8);
        is(due, "y $e | ( b , c ) = a $. z $e | P $. p $p | a = ( b , c ) $= tb tb ab ta wP z y r $.", -106, 7);
        is(due, "z $e | a = b $. p $p | ( a = b ) $= ta tb eq z s $.", 0, 5);
        is(due, "z $e | a = b $. p $p | ( a = b ) $= ta tc eq z s $.", -106, 4);
        is(due, "z $e | a = b a $. p $p | ( a = b ) $= ta tb eq z s $.", -106, 4);
        is(due, "z $e | a $. p $p | ( a = b ) $= ta tb eq z s $.", -106, 4);
    }

    private static void distinct(Due due) {
        String d = "$c t | . $. $v a b c e x y $. ta $f t a $. tb $f t b $. tc $f t c $. te $f t e $. "
            + "pr $a t a . b $. em $a t $. ${ $d a b $. $d x y $. d1 $a | a b $. $} ";
        due.check(d, "p $p | c e $= tc te d1 $.", -107, 2);
        due.check(d, "$d c e $. p $p | c e $= tc te d1 $.", 0, 3);
        due.check(d, "$d c e $. p $p | e c $= te tc d1 $.", 0, 3);
        due.check(d, "${ $d c e $. $} p $p | c e $= tc te d1 $.", -107, 2);
        due.check(d, "$d c e $. p $p | c c $= tc tc d1 $.", -107, 2);
        due.check(d, "p $p | $= em em d1 $.", 0, 3);
        due.check(d, "p $p | c $= tc em d1 $.", 0, 3);
        due.check(d, "$d a c $. $d a e $. $d b c $. p $p | a . b c . e $= ta tb pr tc te pr d1 $.", -107, 6);
        due.check(d, "$d a c $. $d a e $. $d b c e $. p $p | a . b c . e $= ta tb pr tc te pr d1 $.", 0, 7);
        due.check(d, "$d a b c e $. p $p | a . b b . e $= ta tb pr tb te pr d1 $.", -107, 6);
        // A pair with a variable that is not in the $p, which is no DISTINCT pair of it, but active.
        due.check(d + "${ m $e | a $. ${ $d a b $. d2 $a | . $. $} d3 $a | . $. $} ",
            "$d c e $. ${ n $e | c $. p $p | . $= tc n d3 $. $}", 0, 3);
        due.check(d + "${ $d a b $. m $e | b $. d2 $a | a $. $} ${ m3 $e | a $. d3 $a | . $. $} ",
            "$d c e $. n $e | e $. p $p | . $= tc tc te n d2 d3 $.", 0, 6);
        due.check(d + "${ $d a b $. m $e | b $. d2 $a | a $. $} ${ m3 $e | a $. d3 $a | . $. $} ",
            "n $e | e $. p $p | . $= tc tc te n d2 d3 $.", -107, 4);
        due.check(d + "${ $d a b c $. d3 $a | a b c $. $} ",
            "$d a c $. $d b c $. $d a b $. p $p | a b c $= ta tb tc d3 $.", 0, 4);
        due.check(d + "${ $d a b c $. d3 $a | a b c $. $} ",
            "$d a c $. $d b c $. p $p | a b c $= ta tb tc d3 $.", -107, 3);
        due.check(d, "$d a b $. p $p | a . a . a b $= ta ta ta pr pr tb d1 $.", 0, 7);
        due.check(d, "$d a b $. p $p | a . a . c b $= ta ta tc pr pr tb d1 $.", -107, 6);
        farVariables(due);
        // A hypothesis that does not fit is found before a pair.
        due.check(d + "${ $d a b $. m $e | b $. d2 $a | a $. $} ", "n $e | e $. p $p | c $= tc tb n d2 $.", -106, 3);
    }

    /** Variables with numbers that are far apart, or 64 and 65 apart. */
    private static void farVariables(Due due) {
        int[] numbers = {2, 65, 66, 67, 130, 131, 194, 259, 299};
        StringBuilder head = new StringBuilder("$c t | $. $v " + Due.row("v", 2, 300) + "$. ");
        for (int n : numbers) {
            head.append("f").append(n).append(" $f t v").append(n).append(" $. ");
        }
        head.append("${ $d v2 v65 $. d $a | v2 v65 $. $} ");
        for (int n : numbers) {
            for (int m : numbers) {
                String rest = n == m ? "" : "$d v" + n + " v" + m + " $. ";
                due.check(head.toString(), rest + "p $p | v" + n + " v" + m + " $= f" + n + " f" + m + " d $.",
                    n == m ? -107 : 0, n == m ? 2 : 3);
                due.check(head.toString(), "$d v66 v131 $. p $p | v" + n + " v" + m + " $= f" + n + " f" + m + " d $.",
                    n + m == 197 && Math.abs(n - m) == 65 ? 0 : -107, n + m == 197 && Math.abs(n - m) == 65 ? 3 : 2);
            }
        }
    }

    private static void ends(Due due) {
        is(due, "p $p t a $= ta ta $.", -108, 2);
        is(due, "p $p t a $= tb $.", -109, 1);
        is(due, "p $p t a a $= ta $.", -109, 1);
        is(due, "p $p t $= ta $.", -109, 1);
        is(due, "p $p w a $= ta $.", -109, 1);
        is(due, "p $p t a $= ( ) AA $.", -108, 2);
        is(due, "p $p t a $= ( tb ) B $.", -109, 1);
    }

    private static void tooMuch(Due due) {
        is(due, "p $p t a $= " + Due.times(100, "ta ") + "$.", -108, 100);
        is(due, "p $p t a $= " + Due.times(101, "ta ") + "$.", -110, 100);
        is(due, "p $p t a $= " + Due.times(100, "ta ") + "k $.", -110, 100);
        is(due, "p $p t a $= " + Due.times(100, "ta ") + "ab k k $.", -110, 102);
        is(due, "p $p t a $= " + Due.times(100, "ta ") + "ab k $.", -108, 102);
        is(due, "p $p t a $= ( ) AZ" + Due.times(100, "B") + " $.", -110, 100);
        is(due, "p $p t a $= ( ) AZ" + Due.times(99, "B") + " $.", -108, 100);
        // x makes one more of what it takes, y twice as much: 2, 3, .. and 200 or 201 in the end.
        String grow = "$c t o $. $v a $. ta $f t a $. x $a t o a $. y $a t a a $. ";
        String to101 = "ta " + Due.times(98, "x ");
        due.check(grow, "p $p t a $= " + to101 + "y x $.", -109, 101);
        due.check(grow, "p $p t a $= " + to101 + "y x x $.", -110, 101);
        due.check(grow, "p $p t a $= " + to101 + "x y $.", -110, 100);
        due.check(grow + "z $a t a a a $. ", "p $p t a $= " + to101 + "z $.", -110, 99);
    }
}
