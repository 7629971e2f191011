/** Promise 14: each sentence on how a proof is told, and when it is not. */
public final class TellEdgesTest {
    // All things are just t: em takes nothing, u and w one, j two of them.
    private static final String PLAIN = "$c t $. em $a t $. ${ u1 $e t $. u $a t $. w $a t $. u2 $e t $. j $a t $. $} ";
    // k takes nothing, x one, y two; q takes two, and what it makes has nothing of them.
    private static final String HEAD = "$c t o $. $v a b c $. ta $f t a $. tb $f t b $. tc $f t c $. x $a t o a $. "
        + "y $a t a b $. k $a t o $. ${ g $e t b $. q $a t $. $} ";

    public static void main(String[] args) {
        Due due = new Due();
        all(due);
        due.end();
    }

    static void all(Due due) {
        writtenOut(due);
        writtenOutMarks(due);
        compressedList(due);
        compressedListOrder(due);
        compressedHypotheses(due);
        compressedLike(due);
        compressedNotLike(due);
        compressedInOrder(due);
        compressedTakesNothing(due);
        compressedMarkOnlyIfTold(due);
        compressedMarksInOrder(due);
        compressedNumbers(due);
        compressedManyMarks(due);
        toldAgainIsTheSame(due);
        bad(due);
        no(due);
        fullByStepsWrittenOut(due);
        fullByBytesWrittenOut(due);
        notFullByStepsCompressed(due);
        longestCompressed(due);
        outStays(due);
    }

    private static void told(Due due, String head, String statement, int form, String text) {
        due.fresh();
        due.feed(head + statement + " $.");
        int k = due.x.read() - 1;
        due.is("tell(.., " + form + ") of " + statement, due.x.tell(k, form), text.length());
        due.is("OUT of " + statement, due.out(), text);
    }

    private static void written(Due due, String statement, String text) {
        told(due, HEAD, statement, 0, text);
    }

    private static void compressed(Due due, String statement, String text) {
        told(due, HEAD, statement, 1, text);
    }

    /** Promise 14: "is told, in the OUT: how many bytes. form = 0: written out, labels with a 32 between". */
    private static void writtenOut(Due due) {
        due.of("Promise 14: written out, labels with a 32 between");
        written(due, "p $p t a $= ta", "ta");
        written(due, "p $p t o $= ( k ) A", "k");
        written(due, "p $p t o b $= ( x ) AB", "tb x");
        written(due, "p $p t a  b $=   ta\n tb $( $)  y", "ta tb y");
    }

    /** Promise 14: "marked steps by all the steps that made them". */
    private static void writtenOutMarks(Due due) {
        due.of("Promise 14: marked steps by all the steps that made them");
        written(due, "p $p t a $= ( ) AZ", "ta");
        written(due, "p $p t a a $= ( y ) AZCB", "ta ta y");
        written(due, "p $p t o a o a $= ( x y ) ABZDC", "ta x ta x y");
        written(due, "p $p t o a o a o a o a $= ( x y ) ABZDCZEC", "ta x ta x y ta x ta x y y");
    }

    /** Promise 14: "compressed: ( , the labels that are none of its HYPOTHESES .. ) , each with a 32 behind it". */
    private static void compressedList(Due due) {
        due.of("Promise 14: ( , the labels that are none of its HYPOTHESES, ), each with a 32 behind it");
        compressed(due, "p $p t a $= ta", "( ) A");
        compressed(due, "p $p t o $= k", "( k ) A");
        compressed(due, "p $p t o a $= ta x", "( x ) AB");
        compressed(due, "e $e t b $. p $p t $= tb e q", "( q ) ABC");
        // A label that is in the list, but named by no step, is not told.
        compressed(due, "p $p t o $= ( x tb y k ) D", "( k ) A");
        String drop = "${ f1 $e t b o $. f2 $a t $. $} ${ v $e t b $. v2 $a t b o $. $} ";
        told(due, HEAD + drop, "e $e t a $. p $p t $= ta ta e v2 f2", 1, "( v2 f2 ) AABCD");
        // A $f that is none of its HYPOTHESES is in the list.
        told(due, "$c t w $. $v a b $. ta $f t a $. tb $f t b $. v $a w a $. ${ g $e w a $. q $a t $. $} ",
            "p $p t $= tb tb v q", 1, "( tb v q ) AABC");
    }

    /** Promise 14: "in the order in which steps of the told proof first name them". */
    private static void compressedListOrder(Due due) {
        due.of("Promise 14: labels in the order in which steps first name them");
        compressed(due, "p $p t o a o $= ( y k x ) ADCB", "( x k y ) ABCD");
        compressed(due, "p $p t o o a $= ( y k x ) CADB", "( k x y ) BACD");
        compressed(due, "p $p t o o a $= ( x k y ) CABD", "( k x y ) BACD");
        compressed(due, "p $p t a o $= ta k y", "( k y ) ABC");
    }

    /** Promise 14: "a step that names a hypothesis is its number", however often. */
    private static void compressedHypotheses(Due due) {
        due.of("Promise 14: a step that names a hypothesis is its number");
        compressed(due, "p $p t a b $= ta tb y", "( y ) ABC");
        compressed(due, "p $p t a a $= ta ta y", "( y ) AAB");
        compressed(due, "p $p t a a $= ( y ) AZCB", "( y ) AAB");
        compressed(due, "e $e t o $. f $e t b $. p $p t o $= e", "( ) B");
        compressed(due, "e $e t o $. f $e t b $. p $p t b $= f", "( ) C");
        told(due, "$c t w $. $v a b $. ta $f t a $. tb $f t b $. v $a w a a $. ${ g $e w a b $. q $a t $. $} "
            + "vv $a w a b $. ", "p $p t $= ( q vv tb ) CCCCBA", 1, "( tb vv q ) AAAABC");
    }

    /** Promise 14: "another one that takes something, and is like one that was told before .. is the number of that". */
    private static void compressedLike(Due due) {
        due.of("Promise 14: one that is like one that was told before is the number of that marked step");
        compressed(due, "p $p t o a o a $= ta x ta x y", "( x y ) ABZDC");
        compressed(due, "p $p t o a o a $= ( x y ) ABZDC", "( x y ) ABZDC");
        compressed(due, "p $p t o a o a o a $= ta x ta x y ta x y", "( x y ) ABZDCDC");
        told(due, PLAIN, "p $p t $= em u em u j em u em u j j", 1, "( em u j ) ABZDCZEC");
    }

    /** Promise 14: like is "the same label, like ones taken": other labels, other ones, or another order are not. */
    private static void compressedNotLike(Due due) {
        due.of("Promise 14: like is the same label with like ones taken");
        told(due, PLAIN, "p $p t $= em u em w j", 1, "( em u w j ) ABACD");
        told(due, PLAIN, "p $p t $= em u u em u j", 1, "( em u j ) ABZBDC");
        told(due, PLAIN, "p $p t $= em u em w j em w em u j j", 1, "( em u w j ) ABZACZDFEDD");
        told(due, PLAIN, "p $p t $= em em u j em u em j j", 1, "( em u j ) AABZCDACC");
        compressed(due, "p $p t a b b a $= ta tb y tb ta y y", "( y ) ABCBACC");
    }

    /** Promise 14: "any other one is those that it takes, in order, and then its number". */
    private static void compressedInOrder(Due due) {
        due.of("Promise 14: those that it takes, in order, and then its number");
        told(due, PLAIN, "p $p t $= em u em j", 1, "( em u j ) ABAC");
        told(due, PLAIN, "p $p t $= em em u j", 1, "( em u j ) AABC");
        told(due, PLAIN, "p $p t $= em u em w j em w j", 1, "( em u w j ) ABACZDED");
        compressed(due, "p $p t b o a $= tb ta x y", "( x y ) BACD");
    }

    /** Promise 14: "if it takes something": what takes nothing is told again, and has no Z. */
    private static void compressedTakesNothing(Due due) {
        due.of("Promise 14: what takes nothing is never marked");
        told(due, PLAIN, "p $p t $= em em j", 1, "( em j ) AAB");
        told(due, PLAIN, "p $p t $= ( em j ) AZCB", 1, "( em j ) AAB");
        told(due, PLAIN, "p $p t $= em em em j j", 1, "( em j ) AAABB");
        told(due, PLAIN, "p $p t $= ( em ) AZ", 1, "( em ) A");
    }

    /** Promise 14: "with a Z behind it if .. one like it comes later in what is told so". */
    private static void compressedMarkOnlyIfTold(Due due) {
        due.of("Promise 14: a Z only if one like it comes later in what is told so");
        told(due, PLAIN, "p $p t $= ( em u ) ABZ", 1, "( em u ) AB");
        // The inner one comes later only within the outer one, which is told by its number.
        told(due, PLAIN, "p $p t $= em u u em u u j", 1, "( em u j ) ABBZDC");
        told(due, PLAIN, "p $p t $= ( em u j ) ABZBZEC", 1, "( em u j ) ABBZDC");
        told(due, PLAIN, "p $p t $= em u u em u u j em u j", 1, "( em u j ) ABZBZECDC");
        told(due, PLAIN, "p $p t $= em u em u u j", 1, "( em u j ) ABZDBC");
    }

    /** Promise 14: marked steps are numbered as they come, behind the HYPOTHESES and the list. */
    private static void compressedMarksInOrder(Due due) {
        due.of("Promise 14: marked steps are numbered as they come");
        told(due, PLAIN, "p $p t $= em u u em u j em u u em u j j", 1, "( em u j ) ABZBDCZEC");
        told(due, PLAIN, "p $p t $= em w em u j em u em w j j", 1, "( em w u j ) ABZACZDFEDD");
        compressed(due, "p $p t o a b o a b o a $= ( x y ) ACZBDZFDED", "( x y ) ACZBDZFDED");
    }

    private static String number(int n) {
        StringBuilder letters = new StringBuilder();
        letters.append((char) ('A' + (n - 1) % 20));
        for (int p = (n - 1) / 20; p > 0; p = (p - 1) / 5) {
            letters.insert(0, (char) ('U' + (p - 1) % 5));
        }
        return letters.toString();
    }

    /** Promise 14 and Terms: numbers of one, two and three LETTERS: 20 and 21, 120 and 121. */
    private static void compressedNumbers(Due due) {
        due.of("Promise 14: numbers of one, two and three LETTERS");
        due.is("number(20)", number(20), "T");
        due.is("number(21)", number(21), "UA");
        due.is("number(120)", number(120), "YT");
        due.is("number(121)", number(121), "UUA");
        for (int n : new int[] {19, 20, 21, 40, 41, 119, 120, 121, 122, 140, 141, 150}) {
            // Each axiom takes one, and its number is one more than its own.
            StringBuilder head = new StringBuilder("$c t $. h $e t $. ");
            StringBuilder letters = new StringBuilder("A");
            for (int i = 1; i < n; i++) {
                head.append('a').append(i).append(" $a t $. ");
                letters.append(number(i + 1));
            }
            String row = Due.row("a", 1, n);
            told(due, head.toString(), "p $p t $= h " + row, 1, "( " + row + ") " + letters);
            due.is("the last number", letters.toString().endsWith(number(n)) ? 1 : 0, 1);
        }
    }

    /** Promise 14: marks that are told are not bounded, though a proof may have 200 alone. */
    private static void compressedManyMarks(Due due) {
        due.of("Promise 14: more than 200 marked steps are told");
        // em u, and then j of what was there twice, each marked; in the end w of em twice, which is not marked.
        StringBuilder chain = new StringBuilder("ABZ");
        for (int mark = 1; mark < 200; mark++) {
            chain.append(number(4 + mark)).append("CZ");
        }
        chain.append(number(204)).append("C");
        due.fresh();
        due.feed(PLAIN + "p $p t $= ( em u j w ) " + chain + "ADADCC $.");
        int k = due.x.read() - 1;
        due.is("check", due.x.check(k), 0);
        String told = "( em u j w ) " + chain + "ADZ" + number(205) + "CC";
        due.is("tell", due.x.tell(k, 1), told.length());
        due.is("OUT", due.out(), told);
        due.is("written out", due.x.tell(k, 0), -3);
        due.is("the OUT stays", due.out(), told);
    }

    /** Promise 14: what is told is a proof, and is told the same again. */
    private static void toldAgainIsTheSame(Due due) {
        due.of("Promise 14: what is told is a right proof, told the same again");
        String[] proofs = {"em u em u j em u em u j j", "( em u j w ) ABDBZEC", "( em u j w ) ABZDEBZFCZGCC"};
        for (String proof : proofs) {
            due.fresh();
            due.feed(PLAIN + "p $p t $= " + proof + " $.");
            int k = due.x.read() - 1;
            String[] told = new String[2];
            for (int form = 0; form < 2; form++) {
                due.is("tell of " + proof, due.x.tell(k, form) > 0 ? 1 : 0, 1);
                told[form] = due.out();
            }
            for (String again : told) {
                due.check(PLAIN, "p $p t $= " + again + " $.", 0, steps(again));
                for (int form = 0; form < 2; form++) {
                    due.is("tell of " + again, due.x.tell(k, form), told[form].length());
                    due.is("OUT of " + again, due.out(), told[form]);
                }
            }
        }
    }

    /** How many steps a told proof has: none of these has a number above T. */
    private static int steps(String proof) {
        if (!proof.startsWith("(")) {
            return proof.split(" ").length;
        }
        return proof.substring(proof.indexOf(") ") + 2).replace("Z", "").length();
    }

    /** Promise 14: "BAD: no $p, no such form", and before NO. */
    private static void bad(Due due) {
        due.of("Promise 14: BAD: no $p, no such form");
        // 0 ta, 1 tb, 2 tc, 3 x, 4 y, 5 k, 6 g, 7 q
        due.book(HEAD + "p $p t a $= ta $. r $p t a $= tb $.", 10);
        for (int form = 0; form < 2; form++) {
            for (int k : new int[] {0, 3, 6, 7, 10, -1, Integer.MIN_VALUE, Integer.MAX_VALUE}) {
                due.is("tell(" + k + ", " + form + ")", due.x.tell(k, form), -1);
            }
        }
        for (int form : new int[] {-1, 2, 3, Integer.MIN_VALUE, Integer.MAX_VALUE}) {
            due.is("tell(8, " + form + ")", due.x.tell(8, form), -1);
            due.is("tell(9, " + form + ")", due.x.tell(9, form), -1);
        }
    }

    /** Promise 14: "NO: check() is not 0". */
    private static void no(Due due) {
        due.of("Promise 14: NO: check() is not 0");
        String[] proofs = {"", "zz", "( ) a", "y", "k k k y y tb", "ta ta", "tb", "?", "( ) A?", "( ) AZ" + "A".repeat(100),
            "( x ) A" + "B".repeat(1000)};
        int[] checks = {-101, -102, -103, -104, -108, -108, -109, 1, 1, -110, -110};
        for (int i = 0; i < proofs.length; i++) {
            due.fresh();
            due.feed(HEAD + "p $p t a $= " + proofs[i] + " $.");
            int k = due.x.read() - 1;
            due.is("check of " + proofs[i], due.x.check(k), checks[i]);
            due.is("tell(.., 0) of " + proofs[i], due.x.tell(k, 0), -2);
            due.is("tell(.., 1) of " + proofs[i], due.x.tell(k, 1), -2);
        }
    }

    // 511 steps: em, and eight times j of what was there twice.
    private static final String TWICE = "( em u j ) AZ DCZ ECZ FCZ GCZ HCZ ICZ JCZ KC ";

    /** Promise 14: "FULL: more than 1000 steps (form 0)". */
    private static void fullByStepsWrittenOut(Due due) {
        due.of("Promise 14: FULL: more than 1000 steps (form 0)");
        for (int steps = 999; steps <= 1002; steps++) {
            due.fresh();
            due.feed(PLAIN + "p $p t $= " + TWICE + "B".repeat(steps - 511) + " $.");
            int k = due.x.read() - 1;
            due.is("check", due.x.check(k), 0);
            int bytes = 256 * 2 + 255 + steps - 511 + steps - 1;
            due.is("tell of " + steps + " steps", due.x.tell(k, 0), steps <= 1000 ? bytes : -3);
            due.is("count(3)", due.x.count(3), steps <= 1000 ? bytes : 0);
        }
        // Far more than could ever be written out, and no end of it without the bound.
        StringBuilder row = new StringBuilder("( em j ) AZ ");
        for (int i = 0; i < 150; i++) {
            row.append(number(3 + i)).append("BZ ");
        }
        due.fresh();
        due.feed(PLAIN + "p $p t $= " + row + " $.");
        int k = due.x.read() - 1;
        due.is("check", due.x.check(k), 0);
        due.is("tell of 2 to the 151st steps", due.x.tell(k, 0), -3);
    }

    /** Promise 14: FULL: more than "6000 bytes", in form 0. */
    private static void fullByBytesWrittenOut(Due due) {
        due.of("Promise 14: FULL: more than 6000 bytes (form 0)");
        String u = "u".repeat(30);
        for (int more = -1; more <= 2; more++) {
            // 193 labels of 30 bytes, a blank before each, are 5983; the first label makes the rest.
            String first = "v".repeat(17 + more);
            due.fresh();
            due.feed("$c t $. " + first + " $a t $. ${ h $e t $. " + u + " $a t $. $} p $p t $= ( " + first + " " + u + " ) A"
                + "B".repeat(193) + " $.");
            due.is("read", due.x.read(), 4);
            due.is("tell of " + (6000 + more), due.x.tell(3, 0), more <= 0 ? 6000 + more : -3);
            due.is("count(3)", due.x.count(3), more <= 0 ? 6000 + more : 0);
            due.is("compressed", due.x.tell(3, 1), 2 + 18 + more + 31 + 2 + 194);
        }
    }

    /** Promise 14: 1000 steps bound form 0 alone: the same proof can be told compressed. */
    private static void notFullByStepsCompressed(Due due) {
        due.of("Promise 14: more than 1000 steps are no matter for form 1");
        due.fresh();
        due.feed(PLAIN + "p $p t $= " + TWICE + "B".repeat(490) + " $.");
        int k = due.x.read() - 1;
        due.is("written out", due.x.tell(k, 0), -3);
        // Told, em is A, j is B, marks are D .. J as there, and u comes last as C.
        String told = "( em j u ) AABZDBZEBZFBZGBZHBZIBZJB" + "C".repeat(490);
        due.is("compressed", due.x.tell(k, 1), told.length());
        due.is("OUT", due.out(), told);
    }

    /**
     * Promise 14: FULL: more than 6000 bytes, in form 1: no proof that a text of 8192 bytes has room for is told with
     * so many, as far as is known; this one comes near: the label that most steps name is number 121 when it is told.
     */
    private static void longestCompressed(Due due) {
        due.of("Promise 14: some 5900 bytes are told compressed");
        StringBuilder head = new StringBuilder("$c | $. z $e | $. g $a | $. ");
        StringBuilder list = new StringBuilder();
        StringBuilder source = new StringBuilder("A");
        StringBuilder letters = new StringBuilder("A");
        String one = "abcdefhijklmnoqrstuvwxyABCDEFGHIJKLMNOPQRSTUVWXYZ0123456789.-_";
        for (int i = 0; i < 119; i++) {
            String label = i == 118 ? "L".repeat(2745) : i < one.length() ? one.substring(i, i + 1)
                : one.charAt(i - one.length()) + "x";
            head.append(label).append(" $a | $. ");
            list.append(label).append(' ');
            source.append(number(i + 3));
            letters.append(number(i + 2));
        }
        String text = head + "p $p | $= ( g " + list + ") " + source + "B".repeat(880) + " $.";
        due.fresh();
        due.feed(text);
        int k = due.x.read() - 1;
        due.is("read", k, 121);
        due.is("check", due.x.check(k), 0);
        due.is("steps", due.x.step(), 1000);
        String told = "( " + list + "g ) " + letters + "UUA".repeat(880);
        due.is("tell", due.x.tell(k, 1), told.length());
        due.is("OUT", due.out(), told);
        due.is("it is near the bound", told.length() > 5890 ? 1 : 0, 1);
        due.is("written out", due.x.tell(k, 0), 1 + 62 * 2 + 56 * 3 + 2746 + 880 * 2);
    }

    /** Promise 14: "(the OUT stays with all of these)". */
    private static void outStays(Due due) {
        due.of("Promise 14: the OUT stays with BAD, NO and FULL");
        due.fresh();
        due.feed(PLAIN + "p $p t $= em $. q $p t $= ? $. r $p t $= " + TWICE + "B".repeat(490) + " $. s $p t $= u $.");
        due.is("read", due.x.read(), 10);
        String[] outs = {"em", "( em ) A", "p $p t $."};
        for (int first = 0; first < 3; first++) {
            due.is("told first", first < 2 ? due.x.tell(6, first) : due.x.print(6), outs[first].length());
            due.is("BAD", due.x.tell(0, 0), -1);
            due.is("BAD", due.x.tell(10, 1), -1);
            due.is("BAD", due.x.tell(6, 2), -1);
            due.is("NO", due.x.tell(7, 0), -2);
            due.is("NO", due.x.tell(9, 1), -2);
            due.is("FULL", due.x.tell(8, 0), -3);
            due.is("count(3)", due.x.count(3), outs[first].length());
            due.is("OUT", due.out(), outs[first]);
        }
    }
}
