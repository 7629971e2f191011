/** Promise 17: on which axioms a proof rests. */
public final class RestsTest {
    private static final String TEXT = "$c t $. $v a $. ta $f t a $. a1 $a t $. a2 $a t a $. a3 $a t $. ${ h $e t $. "
        + "a5 $a t $. $} p6 $p t $= a3 a1 a3 $. p7 $p t a $= ( a2 p6 ) a5 a1 $. p8 $p t $= ta h zz ? p8 p7 $. "
        + "p9 $p t $= ( a5 a1 a5 zz $. a10 $a t $. p11 $p t $= $. p12 $p t $= a13 p12 $. a13 $a t $. "
        + "p14 $p t $= p8 p9 a13 $. p15 $p t $= a1 ) a2 ( a3 $. p16 $p t $= ( ) a1 $. A $a t $. p18 $p t $= ( a1 ) A $. "
        + "p19 $p t $= ( ( a1 ( a2 ) a3 $. p20 $p t $= ( p11 ) $. p21 $p t $= p16 p20 p18 $.";

    public static void main(String[] args) {
        Due due = new Due();
        due.book(TEXT, 22);
        rests(due, 6, 1, 3);
        rests(due, 7, 1, 2, 3);
        rests(due, 8, 1, 2, 3);
        rests(due, 9, 1, 5);
        rests(due, 11);
        rests(due, 12);
        rests(due, 14, 1, 2, 3, 5, 13);
        rests(due, 15, 1, 2, 3);
        rests(due, 16);
        rests(due, 18, 1);
        rests(due, 19, 1, 2);
        rests(due, 20);
        rests(due, 21, 1);
        for (int k : new int[] {0, 1, 4, 5, 10, 17, 22, -1, Integer.MIN_VALUE, Integer.MAX_VALUE}) {
            due.is("rests(" + k + ", 0)", due.x.rests(k, 0), -1);
            due.is("rests(" + k + ", -1)", due.x.rests(k, -1), -1);
        }
        many(due);
        farApart(due);
        due.end();
    }

    private static void rests(Due due, int k, int... row) {
        for (int i = 0; i < row.length; i++) {
            due.is("rests(" + k + ", " + i + ")", due.x.rests(k, i), row[i]);
        }
        due.is("rests(" + k + ", end)", due.x.rests(k, row.length), -2);
        due.is("rests(" + k + ", -1)", due.x.rests(k, -1), -2);
        due.is("rests(" + k + ", great)", due.x.rests(k, Integer.MAX_VALUE), -2);
        due.is("rests(" + k + ", least)", due.x.rests(k, Integer.MIN_VALUE), -2);
    }

    private static void farApart(Due due) {
        StringBuilder text = new StringBuilder("$c t $. ");
        for (int i = 0; i < 195; i++) {
            text.append('a').append(i).append(" $a t $. ");
        }
        due.book(text + "p $p t $= a64 $. q $p t $= a63 a127 $. r $p t $= a128 a194 $. s $p t $= q p $.", 199);
        rests(due, 195, 64);
        rests(due, 196, 63, 127);
        rests(due, 197, 128, 194);
        rests(due, 198, 63, 64, 127);
    }

    private static void many(Due due) {
        // Each $p names the axiom and the $p before it: 100 axioms in a chain; then a book whose $p rest on none.
        StringBuilder text = new StringBuilder("$c t $. ");
        for (int i = 0; i < 100; i++) {
            text.append('a').append(i).append(" $a t $. p").append(i).append(" $p t $= a").append(i);
            text.append(i > 0 ? " p" + (i - 1) : "").append(" $. ");
        }
        due.book(text.toString(), 200);
        for (int i = 0; i < 100; i++) {
            due.is("rests(199, " + i + ")", due.x.rests(199, i), 2 * i);
        }
        due.is("rests(199, 100)", due.x.rests(199, 100), -2);
        due.is("rests(101, 50)", due.x.rests(101, 50), 100);
        due.is("rests(101, 51)", due.x.rests(101, 51), -2);
        for (int round = 0; round < 3; round++) {
            due.feed("$c t $. a $a t $. p $p t $= ? $. q $p t $= " + (round == 1 ? "a" : "p") + " $.");
            due.is("another book", due.x.read(), 3);
            due.is("rests(1, 0)", due.x.rests(1, 0), -2);
            due.is("rests(2, 0)", due.x.rests(2, 0), round == 1 ? 0 : -2);
        }
    }
}
