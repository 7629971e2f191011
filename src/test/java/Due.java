import java.nio.charset.StandardCharsets;

/** What the tests share: a book under test, and answers held against those that are due. */
final class Due {
    private static final int MAX_SHOWN = 20;
    private static final int MAX_CALL = 600;
    // Two books that are full of what the tests' own books have otherwise, and texts that end where they should not.
    private static final String[] WORN = {fullBook("s"), fullBook("z"), "$c t $. $v a b c $. ${ ${ fa $f t a $. $d a b c $. "
        + "e $e t a $. x $a t a", "$c t $. ${ $v a b $. $d a", "$( $c", "x $p"};
    AxiomBook x = new AxiomBook();
    private int wrong;
    private int asked;
    private String sentence = "";
    private boolean worn;

    /** Names the document's sentence that the answers from here on are held against. */
    void of(String quoted) {
        sentence = "[" + quoted + "] ";
    }

    void is(String call, long got, long want) {
        asked++;
        if (got != want) {
            show(shortened(call) + " answered " + got + ", due is " + want);
        }
    }

    void is(String call, String got, String want) {
        asked++;
        if (!got.equals(want)) {
            show(shortened(call) + " answered '" + shortened(got) + "', due is '" + shortened(want) + "'");
        }
    }

    private static String shortened(String text) {
        int half = MAX_CALL / 2;
        return text.length() <= MAX_CALL ? text
            : text.substring(0, half) + " .. " + text.substring(text.length() - half);
    }

    private void show(String line) {
        wrong++;
        if (wrong <= MAX_SHOWN) {
            System.out.println(sentence + line);
        }
    }

    /** From here on fresh() hands out objects that were used before, and have read an empty text since. */
    void useWornObjects() {
        worn = true;
    }

    void fresh() {
        x = new AxiomBook();
        if (worn) {
            wear();
        }
    }

    /** By the document nothing of all this is left when an empty text has been read. */
    private void wear() {
        for (String text : WORN) {
            feed(text);
            is("read() of a worn object's text", x.read() > 100 ? 1 : 0, text.length() > 1000 ? 1 : 0);
            for (int k = 0; k < x.count(1); k++) {
                x.print(k);
                x.tell(k, 1);
                x.tell(k, 0);
                x.trace(k, 1);
                x.check(k);
            }
        }
        x.read();
        x.read();
    }

    static long word(byte[] bytes, int from) {
        long word = 0;
        for (int i = 0; i < 8; i++) {
            word = word << 8 | (from + i < bytes.length ? bytes[from + i] & 255 : 0);
        }
        return word;
    }

    void feed(String text) {
        byte[] bytes = text.getBytes(StandardCharsets.ISO_8859_1);
        for (int i = 0; i < bytes.length; i += 16) {
            x.feed(word(bytes, i), word(bytes, i + 8));
        }
    }

    /** Reads a text that has no fault, on a new object. */
    void book(String text, int statements) {
        fresh();
        feed(text);
        is("read() of " + text, x.read(), statements);
        is("place() of " + text, x.place(), text.length());
    }

    /** Reads a text that has a fault, on a new object. */
    void fault(String text, int fault, int place) {
        fresh();
        feed(text);
        is("read() of " + text, x.read(), -fault);
        is("place() of " + text, x.place(), place);
    }

    /** Reads a text whose fault is at its token # (which is taken out). */
    void faultAt(String text, int fault) {
        int place = text.indexOf('#');
        fault(text.substring(0, place) + text.substring(place + 1), fault, place);
    }

    /** The last statement of a book with this proof behind it is checked. */
    void check(String book, String proof, int answer, int step) {
        fresh();
        feed(book + " " + proof);
        int k = x.read() - 1;
        is("check() of " + proof, x.check(k), answer);
        is("step() of " + proof, x.step(), step);
    }

    String out() {
        StringBuilder all = new StringBuilder();
        for (int i = 0; i < x.count(3); i++) {
            all.append((char) x.out(i));
        }
        return all.toString();
    }

    String name(int kind, int number) {
        StringBuilder all = new StringBuilder();
        for (int i = 0; x.name(kind, number, i) != AxiomBook.BAD; i++) {
            all.append((char) x.name(kind, number, i));
        }
        return all.toString();
    }

    /** What is a variable in most tests is a constant here, what is a constant a variable, and labels are theirs, too. */
    private static String fullBook(String pre) {
        StringBuilder all = new StringBuilder("$c a b c | w o ! $. $v t u tt $. $v " + row("v", 0, 280) + "$. ta $f a t $. ");
        for (int i = 0; i < 20; i++) {
            all.append(pre).append(i).append(" $f a v").append(14 * i).append(" $. ");
        }
        all.append("x $a a t t $. y $a a t v0 $. $d t u v0 v14 v28 v279 $. $d v0 tt $. ${ e $e a t b t $. k $a a t $. $} "
            + "j $a a $. p $p a t t t t $= ( x ) ABZB $. q $p a t v0 t v0 $= ( y x ) ABCZD $. r $p a t $= ( x ) AZBZU $. "
            + "g $p a t $= ( x ) AZZ $. d $p a t $= ( x ) A $. h $p a t $= ta ta $. ");
        for (int i = 0; i < 100; i++) {
            all.append(pre).append(pre).append(i).append(" $a a t $. ");
        }
        return all + "e1 $e a t t v0 $. m $a a v14 v28 $. s $p a v14 $= ( ) BAZB $.";
    }

    static String times(int n, String text) {
        return text.repeat(n);
    }

    /** pre0 pre1 .. with a blank behind each. */
    static String row(String pre, int from, int to) {
        StringBuilder all = new StringBuilder();
        for (int i = from; i < to; i++) {
            all.append(pre).append(i).append(' ');
        }
        return all.toString();
    }

    void end() {
        System.out.println(asked + " answers, " + wrong + " wrong");
        if (wrong != 0 || asked == 0) {
            System.exit(1);
        }
    }
}
