/** Promises 10 and 11: compressed proofs, what their LETTERS name, and how they are wrong. */
public final class LettersTest {
    private static final String HEAD = "$c t o $. $v a b $. ta $f t a $. tb $f t b $. x $a t o a $. y $a t a b $. "
        + "k $a t o $. ";

    public static void main(String[] args) {
        Due due = new Due();
        numbers(due);
        marks(due);
        wrongOnes(due);
        tooMuch(due);
        greatNumbers(due);
        due.end();
    }

    private static void is(Due due, String statement, int answer, int step) {
        due.check(HEAD, statement, answer, step);
    }

    private static void numbers(Due due) {
        is(due, "p $p t o a $= ( x ) AB $.", 0, 2);
        is(due, "p $p t o o a b $= ( y x ) ADBCD $.", 0, 5);
        is(due, "p $p t o o a b $= ( y x ) ADDBC $.", 0, 5);
        is(due, "p $p t o o a b $= ( y x ) ABCDDD $.", -109, 6);
        is(due, "p $p t o o a b $= ( y x ) A D $( $) DB C $.", 0, 5);
        is(due, "p $p t o $= ( k ) A $.", 0, 1);
        is(due, "p $p t o o $= ( k x ) AB $.", 0, 2);
        is(due, "p $p t o b $= ( x ta ) AB $.", 0, 2);
        is(due, "p $p t o a $= ( tb x ) AC $.", 0, 2);
        is(due, "h $e t o a $. p $p t o o a $= ( x ) BC $.", 0, 2);
        is(due, "h $e t o a $. p $p t o o a $= ( x ) BCC $.", -109, 3);
    }

    private static void marks(Due due) {
        is(due, "p $p t o a o a $= ( x y ) ABZDC $.", 0, 4);
        is(due, "p $p t o a o a o a o a $= ( x y ) ABZDCZEC $.", 0, 6);
        is(due, "p $p t a a $= ( y ) AZCB $.", 0, 3);
        is(due, "p $p t a a $= ( y ) AZCZB $.", 0, 3);
        is(due, "p $p t a a a $= ( y ) AZCZBDB $.", 0, 5);
        is(due, "p $p t a a $= ( y ) AZ Z CB $.", -103, 2);
        is(due, "p $p t a a $= ( y ) A ZCB $.", 0, 3);
        is(due, "p $p t a a $= ( y ) CAZB $.", -103, 0);
        is(due, "p $p t a a $= ( y ) AZDB $.", -103, 2);
    }

    private static void wrongOnes(Due due) {
        is(due, "p $p t a $= ( $.", -103, 1);
        is(due, "p $p t a $= ( x y $.", -103, 3);
        is(due, "p $p t a $= ( x y ) $.", -103, 0);
        is(due, "p $p t a $= ( x y ) Aa $.", -103, 1);
        is(due, "p $p t a $= ( x y ) A1B $.", -103, 1);
        is(due, "p $p t a $= ( ) A ) $.", -103, 1);
        is(due, "p $p t a $= ( ) [ $.", -103, 0);
        is(due, "p $p t a $= ( ) @ $.", -103, 0);
        is(due, "p $p t a $= ( ) Z $.", -103, 0);
        is(due, "p $p t a $= ( ) AZZ $.", -103, 2);
        is(due, "p $p t a $= ( ) AUZ $.", -103, 2);
        is(due, "p $p t a $= ( ) AYZA $.", -103, 2);
        is(due, "p $p t a $= ( ) AB $.", -103, 1);
        is(due, "p $p t a $= ( ) A UA $.", -103, 2);
        is(due, "p $p t a $= ( ) AU $.", -103, 2);
        is(due, "p $p t a $= ( ) AUVWXY $.", -103, 6);
        is(due, "p $p t a $= ( ) A" + Due.times(200, "Y") + "T $.", -103, 201);
        is(due, "p $p t a $= ( ) " + Due.times(400, "U") + " $.", -103, 400);
        // Reading comes first: the step that has too few on the stack is not run.
        is(due, "p $p t a $= ( x ) Ba $.", -103, 1);
        is(due, "p $p t a $= ( x ) B $.", -104, 0);
    }

    private static void tooMuch(Due due) {
        String marks = Due.times(100, "AZ");
        is(due, "p $p t a $= ( ) " + marks + " $.", -108, 100);
        // y keeps the stack low, but what it makes grows: the 199th is too long.
        String all = "AZ" + Due.times(199, "AZB");
        is(due, "p $p t a $= ( y ) " + all + " $.", -110, 1 + 2 * 199 - 1);
        is(due, "p $p t a $= ( y ) " + all + "AZ $.", -110, 2 + 199 * 3 + 1);
        is(due, "p $p t a $= ( y ) " + all + "ZZ $.", -110, 2 + 199 * 3);
        is(due, "p $p t a $= ( y ) " + all + "AUZ $.", -103, 2 + 199 * 3 + 2);
        String steps = "A" + Due.times(999, "B");
        due.check("$c t $. $v a $. ta $f t a $. x $a t a $. ", "p $p t a $= ( x ) " + steps + " $.", 0, 1000);
        due.check("$c t $. $v a $. ta $f t a $. x $a t a $. ", "p $p t a $= ( x ) " + steps + "B $.", -110, 1000);
        due.check("$c t $. $v a $. ta $f t a $. x $a t a $. ", "p $p t a $= ( x ) " + steps + "UB $.", -103, 1001);
        due.check("$c t $. $v a $. ta $f t a $. x $a t a $. ", "p $p t a $= ( x ) " + steps + "Z $.", 0, 1000);
    }

    private static void greatNumbers(Due due) {
        // 150 axioms: number 1 is the hypothesis, 2 .. 151 the list; each of the list is taken by itself.
        StringBuilder head = new StringBuilder("$c t $. ");
        StringBuilder list = new StringBuilder();
        for (int i = 0; i < 150; i++) {
            head.append("$c n").append(i).append(" $. k").append(i).append(" $a t n").append(i).append(" $. ");
            list.append('k').append(i).append(' ');
        }
        String[] letters = {"A", "T", "UA", "UT", "VA", "YA", "YT", "UUA", "UUJ"};
        int[] numbers = {1, 20, 21, 40, 41, 101, 120, 121, 130};
        for (int i = 0; i < letters.length; i++) {
            due.check(head.toString(), "p $p t n" + (numbers[i] - 1) + " $= ( " + list + ") " + letters[i] + " $.", 0, 1);
        }
        due.check(head.toString(), "p $p t n149 $= ( " + list + ") UVJ $.", 0, 1);
        due.check(head.toString(), "p $p t n149 $= ( " + list + ") UVK $.", -103, 2);
    }
}
