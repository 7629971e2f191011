/** Promises 14 and 16: proofs told anew, written out and compressed. */
public final class TellTest {
    private static final String HEAD = "$c t o $. $v a b c $. ta $f t a $. tb $f t b $. tc $f t c $. x $a t o a $. "
        + "y $a t a b $. k $a t o $. em $a t $. ${ h $e t a $. z $a t a o $. $} ";

    public static void main(String[] args) {
        Due due = new Due();
        plainOnes(due);
        lists(due);
        sharing(due);
        refused(due);
        manySteps(due);
        manyBytes(due);
        manyNumbers(due);
        due.end();
    }

    /** The last statement is told in both forms; and what is told is right and told the same again. */
    private static void told(Due due, String head, String statement, String written, String compressed) {
        for (int round = 0; round < 3; round++) {
            String proof = round == 0 ? "" : round == 1 ? written : compressed;
            String text = round == 0 ? statement : statement.substring(0, statement.indexOf("$=") + 3) + proof + " $.";
            due.fresh();
            due.feed(head + text);
            int k = due.x.read() - 1;
            due.is("check of " + text, due.x.check(k), 0);
            due.is("tell 0 of " + text, due.x.tell(k, 0), written.length());
            due.is("OUT 0 of " + text, due.out(), written);
            due.is("tell 1 of " + text, due.x.tell(k, 1), compressed.length());
            due.is("OUT 1 of " + text, due.out(), compressed);
        }
    }

    private static void plainOnes(Due due) {
        told(due, HEAD, "p $p t a $= ta $.", "ta", "( ) A");
        told(due, HEAD, "p $p t o $= k $.", "k", "( k ) A");
        told(due, HEAD, "p $p t o a $= ta x $.", "ta x", "( x ) AB");
        told(due, HEAD, "p $p t o a b $= ta x tb y $.", "ta x tb y", "( x y ) ACBD");
        told(due, HEAD, "p $p t a o b $= ta tb x y $.", "ta tb x y", "( x y ) ABCD");
        told(due, HEAD, "e $e t a b $. p $p t a b o $= ta tb y e z $.", "ta tb y e z", "( y z ) ABDCE");
    }

    private static void lists(Due due) {
        // Hypotheses that are none of the $p's stand in the list; the order is that of the told steps.
        told(due, HEAD, "${ g $e t b $. q $a t $. $} p $p t $= em $.", "em", "( em ) A");
        told(due, HEAD + "${ g $e t b $. q $a t $. $} ", "e $e t c c $. p $p t $= tc tc y e q $.", "tc tc y e q",
            "( y q ) AACBD");
        told(due, HEAD, "p $p t o $= ( tc tb ta k ) D $.", "k", "( k ) A");
        String dummy = "$c t w $. $v a b $. ta $f t a $. tb $f t b $. v $a w a $. ${ g $e w a $. q $a t $. $} ";
        told(due, dummy, "p $p t $= tb tb v q $.", "tb tb v q", "( tb v q ) AABC");
        told(due, dummy, "p $p t $= ( q v ta tb ) DDBA $.", "tb tb v q", "( tb v q ) AABC");
    }

    private static void sharing(Due due) {
        told(due, HEAD, "p $p t o a o a $= ta x ta x y $.", "ta x ta x y", "( x y ) ABZDC");
        // Leaves, and what takes nothing, are not marked.
        told(due, HEAD, "p $p t a a $= ( y ) AZCB $.", "ta ta y", "( y ) AAB");
        told(due, HEAD, "p $p t o o $= ( k y ) AZCB $.", "k k y", "( k y ) AAB");
        told(due, HEAD, "p $p t a $= ( ) AZ $.", "ta", "( ) A");
        // What stands only within a marked one is not marked itself.
        told(due, HEAD, "p $p t o o a o o a $= ta x x ta x x y $.", "ta x x ta x x y", "( x y ) ABBZDC");
        told(due, HEAD, "p $p t o o a o a $= ta x x ta x y $.", "ta x x ta x y", "( x y ) ABZBDC");
        told(due, HEAD, "p $p t o a o o a $= ta x ta x x y $.", "ta x ta x x y", "( x y ) ABZDBC");
        // Marks are numbered as they come: the inner one first.
        told(due, HEAD, "p $p t o a o a o o a o o a $= ta x ta x y ta x x ta x x y y $.",
            "ta x ta x y ta x x ta x x y y", "( x y ) ABZDCDBZECC");
        told(due, HEAD, "p $p t o a b o a b o a $= ( x y ) ACZBDZFDED $.", "ta x tb y ta x tb y y ta x y",
            "( x y ) ACZBDZFDED");
        // Same symbols, but other steps: not like one another.
        told(due, HEAD, "p $p t o a o a $= ta x k ta y y $.", "ta x k ta y y", "( x k y ) ABCADD");
        told(due, HEAD, "p $p t a b b a $= ta tb y tb ta y y $.", "ta tb y tb ta y y", "( y ) ABCBACC");
        // An $e and what made it.
        told(due, HEAD, "e $e t a $. p $p t a o $= ( z ) ABC $.", "ta e z", "( z ) ABC");
        told(due, HEAD, "e $e t a $. p $p t a o a o $= ta e z ta e z y $.", "ta e z ta e z y", "( z y ) ABCZED");
    }

    private static void refused(Due due) {
        due.book(HEAD + "p $p t a $= ta $. q $p t a $= tb $. r $p t a $= ? $. s $p t a $= $.", 13);
        due.is("tell(9, 1)", due.x.tell(9, 1), 5);
        for (int form = 0; form < 2; form++) {
            due.is("tell of a wrong one", due.x.tell(10, form), -2);
            due.is("tell of an open one", due.x.tell(11, form), -2);
            due.is("tell of an empty one", due.x.tell(12, form), -2);
            due.is("tell of a $f", due.x.tell(0, form), -1);
            due.is("tell of an $a", due.x.tell(3, form), -1);
            due.is("tell of an $e", due.x.tell(7, form), -1);
            due.is("tell of none", due.x.tell(13, form), -1);
            due.is("tell of none", due.x.tell(-1, form), -1);
        }
        due.is("no such form", due.x.tell(9, 2), -1);
        due.is("no such form", due.x.tell(9, -1), -1);
        due.is("no such form of a wrong one", due.x.tell(10, 2), -1);
        due.is("the OUT stays", due.out(), "( ) A");
        due.is("step is none of tell's", due.x.step(), 0);
        due.is("check", due.x.check(10), -109);
        due.is("tell(9, 0)", due.x.tell(9, 0), 2);
        due.is("step stays", due.x.step(), 1);
        due.is("OUT", due.out(), "ta");
        due.is("out(2)", due.x.out(2), -1);
        due.is("out(-1)", due.x.out(-1), -1);
    }

    private static void manySteps(Due due) {
        // em, then y of what was there twice, again and again: 1, 3, 7, .. 511 steps; u adds one each.
        String head = "$c t $. $v a b $. ta $f t a $. tb $f t b $. em $a t $. u $a t a $. y $a t a b $. ";
        String twice = "AZ DBZ EBZ FBZ GBZ HBZ IBZ JBZ KB ";
        due.book(head + "p $p t $= ( em y u ) " + twice + Due.times(489, "C") + " $. q $p t $= ( em y u ) " + twice
            + Due.times(490, "C") + " $.", 7);
        due.is("check", due.x.check(5), 0);
        due.is("1000 steps", due.x.tell(5, 0), 256 * 2 + 255 + 489 + 999);
        due.is("check", due.x.check(6), 0);
        due.is("1001 steps", due.x.tell(6, 0), -3);
        due.is("the OUT stays", due.x.count(3), 2255);
        String letters = "AABZDBZEBZFBZGBZHBZIBZJB" + Due.times(490, "C");
        due.is("compressed", due.x.tell(6, 1), 11 + letters.length());
        due.is("OUT", due.out(), "( em y u ) " + letters);
        // Far more steps than could ever be written out.
        StringBuilder row = new StringBuilder("AZ ");
        for (int i = 0; i < 100; i++) {
            row.append(number(3 + i)).append('B').append(i < 99 ? "Z" : "").append(' ');
        }
        due.book(head + "p $p t $= ( em y ) " + row + "$.", 6);
        due.is("check", due.x.check(5), 0);
        due.is("2^101 - 1 steps", due.x.tell(5, 0), -3);
        due.is("compressed", due.x.tell(5, 1) > 0 ? 1 : 0, 1);
    }

    private static void manyBytes(Due due) {
        // 193 labels of 30 bytes, a blank before each, are 5983.
        String u = "u".repeat(30);
        String head = "$c t $. $v a $. ta $f t a $. " + u + " $a t a $. ";
        for (int extra = 0; extra < 2; extra++) {
            String v = "v".repeat(17 + extra);
            due.book(head + v + " $a t $. p $p t $= ( " + v + " " + u + " ) A" + Due.times(193, "B") + " $.", 4);
            due.is("print", due.x.print(0), 12);
            due.is("bytes", due.x.tell(3, 0), extra == 0 ? 6000 : -3);
            due.is("OUT", due.x.count(3), extra == 0 ? 6000 : 12);
            due.is("compressed", due.x.tell(3, 1), 2 + 18 + extra + 31 + 2 + 194);
        }
    }

    private static void manyNumbers(Due due) {
        // 130 axioms without hypotheses, joined by y: numbers of one to three letters.
        StringBuilder head = new StringBuilder("$c t $. $v a b $. ta $f t a $. tb $f t b $. y $a t a b $. ");
        StringBuilder written = new StringBuilder("k0");
        StringBuilder list = new StringBuilder("( k0 ");
        StringBuilder letters = new StringBuilder("A");
        for (int i = 0; i < 130; i++) {
            head.append('k').append(i).append(" $a t $. ");
            if (i > 0) {
                written.append(" k").append(i).append(" y");
                list.append('k').append(i).append(i == 1 ? " y " : " ");
                letters.append(i == 1 ? "B" : number(i + 2)).append("C");
            }
        }
        told(due, head.toString(), "p $p t $= " + written + " $.", written.toString(), list + ") " + letters);
    }

    private static String number(int n) {
        String last = String.valueOf((char) ('A' + (n - 1) % 20));
        int prefix = (n - 1) / 20;
        return prefix == 0 ? last : prefix <= 5 ? (char) ('T' + prefix) + last
            : "" + (char) ('U' + (prefix - 6) / 5) + (char) ('U' + (prefix - 6) % 5) + last;
    }
}
