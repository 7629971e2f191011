/** One object used again and again: no answer depends on what was read, checked or told before. */
public final class ReuseTest {
    private static final String[] TEXTS = {
        "$c t o $. $v a b c $. ta $f t a $. tb $f t b $. tc $f t c $. y $a t a b $. ${ $d a b $. d $a t a o b $. $} "
            + "p5 $p t a a a a $= ( y ) AABZCB $. p6 $p t a a $= ( y ) AAB $. p7 $p t a $= ( y ) AU $. "
            + "p8 $p t a $= ( ) A $. ${ $d b c $. p9 $p t b o c $= tb tc d $. $} p10 $p t b o c $= tb tc d $. "
            + "p11 $p t a $= ( y ) A $. p12 $p t a $= ( ) Z $. p13 $p t b a a $= ( y ) BAZDCC $.",
        "$v x y z $. $c w $. e $e w $. fx $f w x $. ${ fy $f w y $. $d x y $. k $a w y x $. $} "
            + "q4 $p w $= e $. fz $f w z $. q6 $p w z $= fz $. q7 $p w $= k $.",
        "$c one $. $v n $. ${ f $f one n $. $} g $f one n $. h $a one n n $. r3 $p one n n $= g h $.",
        "${ $v a $. $} ${ $v b a $. $d a b $. $} $c t $. $v b a $. fb $f t b $. fa $f t a $. m $a t a b $. "
            + "s3 $p t a b $= fb fa m $.",
        "$c t $. $c", "x", "$v a $. ${ $v b $. $d a b $.", "$c t $. $v a $. f $f t a $. e $e t a a $. z $a t b"};
    // What each text is answered with, and then check() and step() of its statements that are a $p.
    private static final int[] READ = {14, 8, 4, 4, -2, -2, -2, -6};
    private static final int[][] CHECKS = {
        {5, 0, 5, 6, 0, 3, 7, -103, 2, 8, 0, 1, 9, 0, 3, 10, -107, 2, 11, 0, 1, 12, -103, 0, 13, 0, 5},
        {4, 0, 1, 6, 0, 1, 7, -104, 0}, {3, 0, 2}, {3, 0, 3}};
    private static final String[][] TOLD = {
        {"( y ) AABZCB", "( y ) AAB", null, "( ) A", "( d ) ABC", null, "( ) A", null, "( y ) BAACC"},
        {"( ) A", "( ) B", null}, {"( h ) AB"}, {"( m ) ABC"}};

    public static void main(String[] args) {
        Due due = new Due();
        int now = -1;
        int[] order = {0, 1, 0, 2, 4, 3, 5, 0, 6, 1, 7, 2, 3, 2, 1, 0, 4, 0, 0, 7, 6, 5, 4, 3};
        for (int next : order) {
            due.feed(TEXTS[next]);
            due.is("read() of " + TEXTS[next], due.x.read(), READ[next]);
            now = READ[next] >= 0 ? next : now;
            proofs(due, now);
            proofsBackwards(due, now);
            frames(due, now);
        }
        due.end();
    }

    private static void proof(Due due, int book, int i) {
        int k = CHECKS[book][3 * i];
        String where = "(" + k + ") in " + TEXTS[book];
        due.is("check" + where, due.x.check(k), CHECKS[book][3 * i + 1]);
        due.is("step of " + where, due.x.step(), CHECKS[book][3 * i + 2]);
        String told = TOLD[book][i];
        due.is("tell" + where, due.x.tell(k, 1), told == null ? -2 : told.length());
        if (told != null) {
            due.is("OUT of " + where, due.out(), told);
        }
    }

    private static void proofs(Due due, int book) {
        for (int i = 0; 3 * i < CHECKS[book].length; i++) {
            proof(due, book, i);
        }
    }

    private static void proofsBackwards(Due due, int book) {
        for (int i = CHECKS[book].length / 3 - 1; i >= 0; i--) {
            proof(due, book, i);
        }
    }

    private static void frames(Due due, int book) {
        int[][] hypotheses = {{3, 0, 1}, {3, 0, 1, 2}, {2, 1}, {2, 0, 1}};
        int k = hypotheses[book][0];
        due.is("hypotheses", due.x.statement(k, 3), hypotheses[book].length - 1);
        for (int i = 1; i < hypotheses[book].length; i++) {
            due.is("hypothesis " + i + " of " + k, due.x.frame(k, 0, i - 1), hypotheses[book][i]);
        }
        due.is("pairs of " + k, due.x.statement(k, 4), book == 1 ? 1 : 0);
    }
}
