/** Terms: each sentence on how a PROOF is written and read, with the FAULTS -1, -2, -3 and -10 of reading, and OPEN. */
public final class ProofEdgesTest {
    private static final String HEAD = "$c t o $. $v a b $. ta $f t a $. tb $f t b $. x $a t o a $. y $a t a b $. "
        + "k $a t o $. u $a t a $. ${ h $e t o $. $} ";

    public static void main(String[] args) {
        Due due = new Due();
        all(due);
        due.end();
    }

    static void all(Due due) {
        writtenOutOrCompressed(due);
        listAndLetters(due);
        lettersAreOneRow(due);
        numbers(due);
        whatNumbersName(due);
        marks(due);
        stepsAreCounted(due);
        readBeforeRun(due);
        firstInOrder(due);
        noToken(due);
        labelOfNoneBefore(due);
        hypothesisThatIsNotActive(due);
        listHasOneOfTheHypotheses(due);
        listHasOneTwice(due);
        labelFaultsAtTheToken(due);
        listWithoutEnd(due);
        byteThatIsNoLetter(due);
        markBehindNoNumber(due);
        markWithinANumber(due);
        numberThatIsTooGreat(due);
        numberThatIsFarTooGreat(due);
        lettersEndWithinANumber(due);
        noLetters(due);
        tooManyMarks(due);
        tooManySteps(due);
        twoAtOneByte(due);
        openByAToken(due);
        openByLetters(due);
        openWhateverElse(due);
        notOpen(due);
    }

    private static void is(Due due, String proof, int answer, int step) {
        due.check(HEAD, "p $p t a $= " + proof + " $.", answer, step);
    }

    /** Checks a proof of something else than t a. */
    private static void of(Due due, String symbols, String proof, int answer, int step) {
        due.check(HEAD, "p $p " + symbols + " $= " + proof + " $.", answer, step);
    }

    /** Terms: "A PROOF is WRITTEN OUT: its tokens are labels; or COMPRESSED: its first token is (". */
    private static void writtenOutOrCompressed(Due due) {
        due.of("Terms: COMPRESSED is what begins with a token (");
        is(due, "ta", 0, 1);
        is(due, "( ) A", 0, 1);
        is(due, "ta ( ) A", -102, 1);
        is(due, "(ta ) A", -102, 0);
        is(due, "() A", -102, 0);
        is(due, "(( ) A", -102, 0);
        is(due, ") A", -102, 0);
        is(due, "A", -102, 0);
    }

    /** Terms: "then come labels, a token ) , and LETTERS". */
    private static void listAndLetters(Due due) {
        due.of("Terms: labels, a token ) and LETTERS");
        of(due, "t o a", "( x ) AB", 0, 2);
        of(due, "t o a", "( x )A B", -102, 2);
        of(due, "t o a", "( x) AB", -102, 1);
        of(due, "t o a", "( x ) AB )", -103, 2);
        of(due, "t o a", "( x ) A ) B", -103, 1);
        of(due, "t o a", "( x ( ) AB", -102, 2);
        of(due, "t o a", "( x ) A(B", -103, 1);
    }

    /** Terms: LETTERS are "all tokens behind it as one row of bytes". */
    private static void lettersAreOneRow(Due due) {
        due.of("Terms: LETTERS are one row of bytes");
        of(due, "t o a", "( x ) A B", 0, 2);
        of(due, "t a a", "( y ) A Z C B", 0, 3);
        of(due, "t a a", "( y ) A ZCB", 0, 3);
        is(due, "( x ) AB AB A!", -103, 5);
        StringBuilder head = new StringBuilder("$c t $. ");
        for (int i = 0; i < 25; i++) {
            head.append("$c n").append(i).append(" $. k").append(i).append(" $a t n").append(i).append(" $. ");
        }
        for (String letters : new String[] {"UC", "U C", "U\nC"}) {
            due.check(head.toString(), "p $p t n22 $= ( " + Due.row("k", 0, 25) + ") " + letters + " $.", 0, 1);
        }
    }

    /** 150 constants n1 .. n150, and axioms k1 .. k150 for them: number i names ki. */
    private static String manyAxioms() {
        StringBuilder head = new StringBuilder("$c t $. ");
        for (int i = 1; i <= 150; i++) {
            head.append("$c n").append(i).append(" $. k").append(i).append(" $a t n").append(i).append(" $. ");
        }
        return head.toString();
    }

    /** Terms: "p is 0, each of U .. Y makes p 5 p + 1 .. 5, and A .. T make the number 20 p + 1 .. 20." */
    private static void numbers(Due due) {
        due.of("Terms: a NUMBER in LETTERS");
        String[] letters = {"A", "B", "S", "T", "UA", "UT", "VA", "VT", "WA", "XT", "YA", "YT", "UUA", "UUT", "UVA",
            "UVJ"};
        int[] numbers = {1, 2, 19, 20, 21, 40, 41, 60, 61, 100, 101, 120, 121, 140, 141, 150};
        String head = manyAxioms();
        String list = "( " + Due.row("k", 1, 151) + ") ";
        for (int i = 0; i < letters.length; i++) {
            due.check(head, "p $p t n" + numbers[i] + " $= " + list + letters[i] + " $.", 0, 1);
        }
        due.check(head, "p $p t n1 $= " + list + "UVK $.", -103, 2);
    }

    /** Terms: "Numbers from 1 on name the HYPOTHESES of the $p, then the labels of the list, then the MARKED steps." */
    private static void whatNumbersName(Due due) {
        due.of("Terms: what the numbers name, and in which order");
        String head = HEAD + "e $e t b o $. ";
        // With a in it the $p has the HYPOTHESES ta, tb and e; without it tb and e.
        due.check(head, "p $p t a $= ( x k ) A $.", 0, 1);
        due.check(head, "p $p t b $= ( x k ) A $.", 0, 1);
        due.check(head, "p $p t b o $= ( x k ) B $.", 0, 1);
        due.check(head, "p $p t o b $= ( x k ) AC $.", 0, 2);
        due.check(head, "p $p t o $= ( x k ) D $.", 0, 1);
        due.check(head, "p $p t o $= ( x k ) E $.", -103, 0);
        due.check(head, "p $p t o o $= ( x k ) DZEC $.", -108, 3);
        due.check(head, "p $p t o o $= ( x k y ) DZFE $.", 0, 3);
        due.check(head, "p $p t o o $= ( x k y ) DZGE $.", -103, 2);
        due.check(HEAD, "p $p t o $= ( k ) A $.", 0, 1);
    }

    /** Terms: "Z behind a number marks its step." */
    private static void marks(Due due) {
        due.of("Terms: Z marks the step of the number before it");
        of(due, "t a a", "( y ) AZCB", 0, 3);
        of(due, "t o a o a", "( x y ) ABZDC", 0, 4);
        of(due, "t a o a", "( x y ) AZBDC", -109, 4);
        of(due, "t o a a", "( x y ) AZBDC", 0, 4);
        // The first mark is the first one named, and one that a mark names may be marked again.
        of(due, "t o a a", "( x y ) AZBZDC", 0, 4);
        of(due, "t o a o a", "( x y ) AZBZEC", 0, 4);
        of(due, "t a a a", "( y ) AZCZBDB", 0, 5);
        // A mark at the end of LETTERS does nothing.
        is(due, "( ) AZ", 0, 1);
        // A mark is there only from its Z on.
        is(due, "( ) BZ", -103, 0);
    }

    /** Terms: "Each token of a proof written out, and each number, is a STEP." */
    private static void stepsAreCounted(Due due) {
        due.of("Terms: what is a STEP");
        is(due, "ta u u", 0, 3);
        is(due, "( u ) ABB", 0, 3);
        is(due, "( u x y ) AZBZ", 0, 2);
        due.check(manyAxioms(), "p $p t n21 $= ( " + Due.row("k", 1, 151) + ") UAZ $.", 0, 1);
    }

    /** Terms: a proof "is read whole first, then run". */
    private static void readBeforeRun(Due due) {
        due.of("Terms: a proof is read whole first, then run");
        is(due, "y zz", -102, 1);
        is(due, "y ta ta ta", -104, 0);
        is(due, "( y ) B!", -103, 1);
        is(due, "( y ) B", -104, 0);
        is(due, "( y ) BAAU", -103, 4);
        is(due, "( u ) " + "BZ".repeat(201), -110, 401);
    }

    /** Terms: "the first one in the order of its tokens, LETTERS, or steps". */
    private static void firstInOrder(Due due) {
        due.of("Terms: the first fault in order is told");
        is(due, "zz yy", -102, 0);
        is(due, "ta zz yy", -102, 1);
        is(due, "( zz yy ) !", -102, 1);
        is(due, "( k k k ) !", -102, 2);
        is(due, "( zz", -102, 1);
        is(due, "( ) A!!", -103, 1);
        is(due, "( ) ZU", -103, 0);
        is(due, "( ) " + "AZ".repeat(201) + "!", -110, 401);
        is(due, "( ) " + "AZ".repeat(200) + "!Z", -103, 400);
        is(due, "ta y tb y", -104, 1);
    }

    /** Terms: "-1 it has no token." */
    private static void noToken(Due due) {
        due.of("Terms: -1 no token");
        is(due, "", -101, 0);
        is(due, "$( ta $)", -101, 0);
    }

    /** Terms: "-2 a label that is none of a statement before the $p". */
    private static void labelOfNoneBefore(Due due) {
        due.of("Terms: -2 a label that is none of a statement before the $p");
        for (String label : new String[] {"zz", "p", "t", "a", "!", ")", "Ta", "taa", "??"}) {
            is(due, label, -102, 0);
            is(due, "ta " + label, -102, 1);
            if (!label.equals(")")) {
                is(due, "( " + label + " ) A", -102, 1);
            }
        }
        due.book(HEAD + "p $p t a $= q $. q $p t a $= ( p ) A $. r $p t a $= ( r ) A $.", 10);
        due.is("a later one", due.x.check(7), -102);
        due.is("its place", due.x.step(), 0);
        due.is("one before", due.x.check(8), 0);
        due.is("the $p itself", due.x.check(9), -102);
        due.is("its place", due.x.step(), 1);
    }

    /** Terms: -2 "or of a hypothesis that is not active there". */
    private static void hypothesisThatIsNotActive(Due due) {
        due.of("Terms: -2 a hypothesis that is not active there");
        is(due, "h", -102, 0);
        is(due, "ta h", -102, 1);
        is(due, "( h ) A", -102, 1);
        of(due, "t a", "( k h ) A", -102, 2);
        due.check(HEAD, "${ e $e t o $. $} p $p t o $= e $.", -102, 0);
        due.check(HEAD, "${ e $e t o $. ${ p $p t o $= e $. $} $}", 0, 1);
        due.check(HEAD, "$v c $. ${ f $f t c $. $} ${ f2 $f t c $. p $p t c $= f $. $}", -102, 0);
        due.check(HEAD, "$v c $. ${ f $f t c $. $} ${ f2 $f t c $. p $p t c $= f2 $. $}", 0, 1);
        // One that is active may be named though it is none of the $p's HYPOTHESES.
        is(due, "ta tb", -108, 2);
        is(due, "( tb ) AB", -108, 2);
    }

    /** Terms: -2 "in a list also that of one of the $p's HYPOTHESES". */
    private static void listHasOneOfTheHypotheses(Due due) {
        due.of("Terms: -2 in a list one of the $p's HYPOTHESES");
        is(due, "( ta ) A", -102, 1);
        is(due, "( k ta ) A", -102, 2);
        is(due, "( tb ) A", 0, 1);
        due.check(HEAD, "e $e t b $. p $p t a $= ( tb ) A $.", -102, 1);
        due.check(HEAD, "e $e t b $. p $p t a $= ( e ) A $.", -102, 1);
        due.check(HEAD, "e $e t b $. p $p t a $= ta $.", 0, 1);
    }

    /** Terms: -2 "or one that was in the list". */
    private static void listHasOneTwice(Due due) {
        due.of("Terms: -2 one that was in the list");
        is(due, "( k k ) A", -102, 2);
        is(due, "( k x k ) A", -102, 3);
        is(due, "( tb k tb ) A", -102, 3);
        is(due, "( k x y u ) A", 0, 1);
        // Written out one may be named again and again.
        is(due, "ta u u u", 0, 4);
    }

    /** Terms: -2 is "at the token, from 0". */
    private static void labelFaultsAtTheToken(Due due) {
        due.of("Terms: -2 is at the token, from 0");
        is(due, "zz", -102, 0);
        is(due, "ta " + "u ".repeat(398) + "zz", -102, 399);
        is(due, "( zz ) A", -102, 1);
        is(due, "( x y k u zz ) A", -102, 5);
        is(due, "( $( zz $) x $( $) zz ) A", -102, 2);
    }

    /** Terms: "-3 in a list without ) (at the number of tokens)". */
    private static void listWithoutEnd(Due due) {
        due.of("Terms: -3 a list without ), at the number of tokens");
        is(due, "(", -103, 1);
        is(due, "( x", -103, 2);
        is(due, "( x y k u tb", -103, 6);
        is(due, "( x y zz", -102, 3);
        is(due, "( $( ) $) x", -103, 2);
    }

    /** Terms: -3 "a byte in LETTERS that is none of A .. Z", "at the byte of LETTERS, from 0". */
    private static void byteThatIsNoLetter(Due due) {
        due.of("Terms: -3 a byte that is none of A .. Z");
        for (char c = 33; c <= 126; c++) {
            if (c == '$' || c == '?' || c >= 'A' && c <= 'Z') {
                continue;
            }
            is(due, "( ) A" + c, -103, 1);
            is(due, "( ) AA" + c + "A", -103, 2);
            is(due, "( ) U" + c, -103, 1);
        }
        is(due, "( ) a", -103, 0);
    }

    /** Terms: -3 "Z not directly behind a number". */
    private static void markBehindNoNumber(Due due) {
        due.of("Terms: -3 Z not directly behind a number");
        is(due, "( ) Z", -103, 0);
        is(due, "( ) ZA", -103, 0);
        is(due, "( ) AZZ", -103, 2);
        is(due, "( ) A Z Z", -103, 2);
        is(due, "( u ) ABZBZZ", -103, 5);
    }

    /** Terms: -3 "U .. Y with Z behind": it is found at the Z. */
    private static void markWithinANumber(Due due) {
        due.of("Terms: -3 U .. Y with Z behind");
        for (char c = 'U'; c <= 'Y'; c++) {
            is(due, "( ) " + c + "Z", -103, 1);
            is(due, "( ) A" + c + "ZA", -103, 2);
            is(due, "( ) A" + c + c + " Z", -103, 3);
        }
    }

    /** Terms: -3 "a number above those that name something", at "that which ends a number that is too great". */
    private static void numberThatIsTooGreat(Due due) {
        due.of("Terms: -3 a number above those that name something");
        is(due, "( ) A", 0, 1);
        is(due, "( ) B", -103, 0);
        is(due, "( ) T", -103, 0);
        is(due, "( u ) AB", 0, 2);
        is(due, "( u ) AC", -103, 1);
        is(due, "( u ) ABZC", -108, 3);
        is(due, "( u ) ABZD", -103, 3);
        is(due, "( ) UA", -103, 1);
        is(due, "( ) AYT", -103, 2);
        is(due, "( ) UU A", -103, 2);
        due.check(HEAD, "p $p t o $= ( ) A $.", -103, 0);
    }

    /** Terms: -3 a number may have "any bytes U .. Y": however great it would be, it is told where it ends. */
    private static void numberThatIsFarTooGreat(Due due) {
        due.of("Terms: -3 a number of any bytes U .. Y");
        for (int n : new int[] {3, 7, 14, 28, 31, 32, 64, 397, 3000}) {
            is(due, "( ) " + "U".repeat(n) + "A", -103, n);
            is(due, "( ) A" + "Y".repeat(n) + "T", -103, n + 1);
            is(due, "( ) A" + "X".repeat(n) + "E", -103, n + 1);
        }
    }

    /** Terms: -3 "LETTERS that end within a number", at "how many there are for the end". */
    private static void lettersEndWithinANumber(Due due) {
        due.of("Terms: -3 LETTERS that end within a number");
        for (char c = 'U'; c <= 'Y'; c++) {
            is(due, "( ) " + c, -103, 1);
            is(due, "( ) A" + c, -103, 2);
            is(due, "( ) AZ" + c + c, -103, 4);
        }
        is(due, "( ) A U V", -103, 3);
        is(due, "( ) " + "U".repeat(3000), -103, 3000);
    }

    /** Terms: -3 LETTERS that "have none". */
    private static void noLetters(Due due) {
        due.of("Terms: -3 LETTERS that have no number");
        is(due, "( )", -103, 0);
        is(due, "( x y )", -103, 0);
        is(due, "( x y ) $( A $)", -103, 0);
        is(due, "( zz )", -102, 1);
    }

    /** Terms: "-10 too much: the 201st marked step .. (as LETTERS are read, at their byte)". */
    private static void tooManyMarks(Due due) {
        due.of("Terms: -10 the 201st marked step");
        is(due, "( u ) AZ" + "BZ".repeat(199), 0, 200);
        is(due, "( u ) AZ" + "BZ".repeat(200), -110, 401);
        is(due, "( u ) AZ" + "BZ".repeat(199) + "BBB", 0, 203);
        is(due, "( u ) AZ" + "BZ".repeat(199) + "BBBZ", -110, 403);
        // The 200th mark is number 202.
        is(due, "( u ) AZ" + "BZ".repeat(199) + "UYB", -108, 201);
        is(due, "( u ) AZ" + "BZ".repeat(199) + "UYC", -103, 402);
    }

    /** Terms: -10 "the 1001st step (as LETTERS are read, at their byte)". */
    private static void tooManySteps(Due due) {
        due.of("Terms: -10 the 1001st step");
        is(due, "( u ) A" + "B".repeat(999), 0, 1000);
        is(due, "( u ) A" + "B".repeat(1000), -110, 1000);
        is(due, "( u ) AZ" + "B".repeat(1000), -110, 1001);
        is(due, "( u ) A" + "B".repeat(999) + "Z", 0, 1000);
        is(due, "( u ) A" + "B".repeat(999) + "U", -103, 1001);
    }

    /** Terms: "Of two at one byte -3 is first." */
    private static void twoAtOneByte(Due due) {
        due.of("Terms: of two at one byte -3 is first");
        is(due, "( u ) A" + "B".repeat(999) + "C", -103, 1000);
        is(due, "( u ) A" + "B".repeat(999) + "UA", -103, 1001);
        is(due, "( u ) A" + "B".repeat(999) + "a", -103, 1000);
        is(due, "( u ) AZ" + "BZ".repeat(199) + "Z", -103, 400);
        is(due, "( u ) AZ" + "BZ".repeat(199) + "UZ", -103, 401);
    }

    /** Terms: "A proof with a token that is just ? .. is OPEN (1)". */
    private static void openByAToken(Due due) {
        due.of("Terms: OPEN by a token that is just ?");
        is(due, "?", 1, 0);
        is(due, "ta ?", 1, 0);
        is(due, "? ta", 1, 0);
        is(due, "( ?", 1, 0);
        is(due, "( ? ) A", 1, 0);
        is(due, "( x ? y ) AB", 1, 0);
        is(due, "( ) ?", 1, 0);
        is(due, "( ) A ?", 1, 0);
    }

    /** Terms: "or a compressed one with a ? in LETTERS, is OPEN (1)". */
    private static void openByLetters(Due due) {
        due.of("Terms: OPEN by a ? in LETTERS");
        is(due, "( ) A?", 1, 0);
        is(due, "( ) ?A", 1, 0);
        is(due, "( ) ??", 1, 0);
        is(due, "( x ) A B?B A", 1, 0);
        is(due, "( ) AU?", 1, 0);
    }

    /** Terms: a proof is OPEN "whatever else". */
    private static void openWhateverElse(Due due) {
        due.of("Terms: OPEN whatever else");
        is(due, "zz ?", 1, 0);
        is(due, "y y ? y", 1, 0);
        is(due, "( zz zz ?", 1, 0);
        is(due, "( zz ) !?", 1, 0);
        is(due, "( ta ) Z ) ?", 1, 0);
        is(due, "( ) " + "AZ".repeat(201) + "?", 1, 0);
        is(due, "( ) " + "A".repeat(1001) + "?", 1, 0);
    }

    /** Terms: what has a ? elsewhere is not OPEN. */
    private static void notOpen(Due due) {
        due.of("Terms: a ? elsewhere is not OPEN");
        is(due, "??", -102, 0);
        is(due, "ta?", -102, 0);
        is(due, "( x?", -102, 1);
        is(due, "( x? ) A", -102, 1);
        is(due, "ta ) A?", -102, 1);
        is(due, "$( ? $) ta", 0, 1);
        is(due, "( ) $( ? $) A", 0, 1);
    }
}
