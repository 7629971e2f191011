import java.nio.charset.StandardCharsets;

/** What the tests share: a book under test, and answers held against those that are due. */
final class Due {
    private static final int MAX_SHOWN = 20;
    AxiomBook x = new AxiomBook();
    private int wrong;
    private int asked;

    void is(String call, long got, long want) {
        asked++;
        if (got != want) {
            show(call + " answered " + got + ", due is " + want);
        }
    }

    void is(String call, String got, String want) {
        asked++;
        if (!got.equals(want)) {
            show(call + " answered '" + got + "', due is '" + want + "'");
        }
    }

    private void show(String line) {
        wrong++;
        if (wrong <= MAX_SHOWN) {
            System.out.println(line);
        }
    }

    void fresh() {
        x = new AxiomBook();
    }

    static long word(byte[] bytes, int from) {
        long word = 0;
        for (int i = 0; i < 8; i++) {
            word = word << 8 | (from + i < bytes.length ? bytes[from + i] & 255 : 0);
        }
        return word;
    }

    void feed(String text) {
        byte[] bytes = text.getBytes(StandardCharsets.ISO_8859_1);
        for (int i = 0; i < bytes.length; i += 16) {
            x.feed(word(bytes, i), word(bytes, i + 8));
        }
    }

    /** Reads a text that has no fault, on a new object. */
    void book(String text, int statements) {
        fresh();
        feed(text);
        is("read() of " + text, x.read(), statements);
        is("place() of " + text, x.place(), text.length());
    }

    /** Reads a text that has a fault, on a new object. */
    void fault(String text, int fault, int place) {
        fresh();
        feed(text);
        is("read() of " + text, x.read(), -fault);
        is("place() of " + text, x.place(), place);
    }

    /** Reads a text whose fault is at its token # (which is taken out). */
    void faultAt(String text, int fault) {
        int place = text.indexOf('#');
        fault(text.substring(0, place) + text.substring(place + 1), fault, place);
    }

    /** The last statement of a book with this proof behind it is checked. */
    void check(String book, String proof, int answer, int step) {
        fresh();
        feed(book + " " + proof);
        int k = x.read() - 1;
        is("check() of " + proof, x.check(k), answer);
        is("step() of " + proof, x.step(), step);
    }

    String out() {
        StringBuilder all = new StringBuilder();
        for (int i = 0; i < x.count(3); i++) {
            all.append((char) x.out(i));
        }
        return all.toString();
    }

    String name(int kind, int number) {
        StringBuilder all = new StringBuilder();
        for (int i = 0; x.name(kind, number, i) != AxiomBook.BAD; i++) {
            all.append((char) x.name(kind, number, i));
        }
        return all.toString();
    }

    static String times(int n, String text) {
        return text.repeat(n);
    }

    /** pre0 pre1 .. with a blank behind each. */
    static String row(String pre, int from, int to) {
        StringBuilder all = new StringBuilder();
        for (int i = from; i < to; i++) {
            all.append(pre).append(i).append(' ');
        }
        return all.toString();
    }

    void end() {
        System.out.println(asked + " answers, " + wrong + " wrong");
        if (wrong != 0 || asked == 0) {
            System.exit(1);
        }
    }
}
